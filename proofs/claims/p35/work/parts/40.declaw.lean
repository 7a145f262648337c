def RB_cL_law_88 : List UInt8 := 0xb6 :: 0x00 :: 0x9d :: 0x9f :: 0x00 :: 0x05 :: 0x03 :: 0xac :: 0x84 :: 0x03 :: 0x06 :: 0xa7 :: 0xfa :: 0x87 :: 0x04 :: 0xac :: []
def RB_cL_law_87 : List UInt8 := 0x1a :: 0x2b :: 0x2a :: 0x1d :: 0x04 :: 0x60 :: 0x2e :: 0xb6 :: 0x00 :: 0x9a :: 0x2c :: 0x2a :: 0x1d :: 0x04 :: 0x60 :: 0x2e :: RB_cL_law_88
def RB_cL_law_86 : List UInt8 := 0x57 :: 0xa7 :: 0x00 :: 0x27 :: 0x2b :: 0xb6 :: 0x00 :: 0x96 :: 0x57 :: 0x2c :: 0xb6 :: 0x00 :: 0x99 :: 0x57 :: 0xa7 :: 0x00 :: RB_cL_law_87
def RB_cL_law_85 : List UInt8 := 0xb6 :: 0x00 :: 0x90 :: 0x57 :: 0xa7 :: 0x00 :: 0x34 :: 0x2b :: 0xb6 :: 0x00 :: 0x91 :: 0x57 :: 0x2c :: 0xb6 :: 0x00 :: 0x95 :: RB_cL_law_86
def RB_cL_law_84 : List UInt8 := 0x2e :: 0xb6 :: 0x00 :: 0x8d :: 0x57 :: 0x2c :: 0x2a :: 0x1d :: 0x04 :: 0x60 :: 0x2e :: 0x2a :: 0x1d :: 0x05 :: 0x60 :: 0x2e :: RB_cL_law_85
def RB_cL_law_83 : List UInt8 := 0x00 :: 0x8c :: 0x57 :: 0xa7 :: 0x00 :: 0x55 :: 0x2b :: 0x2a :: 0x1d :: 0x04 :: 0x60 :: 0x2e :: 0x2a :: 0x1d :: 0x05 :: 0x60 :: RB_cL_law_84
def RB_cL_law_82 : List UInt8 := 0x2a :: 0x1d :: 0x04 :: 0x60 :: 0x2e :: 0xb6 :: 0x00 :: 0x89 :: 0x57 :: 0x2c :: 0x2a :: 0x1d :: 0x04 :: 0x60 :: 0x2e :: 0xb6 :: RB_cL_law_83
def RB_cL_law_81 : List UInt8 := 0x85 :: 0x57 :: 0x2c :: 0x2a :: 0x1d :: 0x04 :: 0x60 :: 0x2e :: 0xb6 :: 0x00 :: 0x88 :: 0x57 :: 0xa7 :: 0x00 :: 0x6c :: 0x2b :: RB_cL_law_82
def RB_cL_law_80 : List UInt8 := 0x2e :: 0xb6 :: 0x00 :: 0x84 :: 0x57 :: 0xa7 :: 0x00 :: 0x83 :: 0x2b :: 0x2a :: 0x1d :: 0x04 :: 0x60 :: 0x2e :: 0xb6 :: 0x00 :: RB_cL_law_81
def RB_cL_law_79 : List UInt8 := 0x60 :: 0x2e :: 0x2a :: 0x1d :: 0x06 :: 0x60 :: 0x2e :: 0x2a :: 0x1d :: 0x07 :: 0x60 :: 0x2e :: 0x2a :: 0x1d :: 0x08 :: 0x60 :: RB_cL_law_80
def RB_cL_law_78 : List UInt8 := 0x08 :: 0x60 :: 0x2e :: 0xb6 :: 0x00 :: 0x81 :: 0x57 :: 0x2c :: 0x2a :: 0x1d :: 0x04 :: 0x60 :: 0x2e :: 0x2a :: 0x1d :: 0x05 :: RB_cL_law_79
def RB_cL_law_77 : List UInt8 := 0x1d :: 0x05 :: 0x60 :: 0x2e :: 0x2a :: 0x1d :: 0x06 :: 0x60 :: 0x2e :: 0x2a :: 0x1d :: 0x07 :: 0x60 :: 0x2e :: 0x2a :: 0x1d :: RB_cL_law_78
def RB_cL_law_76 : List UInt8 := 0x60 :: 0x2e :: 0xb6 :: 0x00 :: 0x80 :: 0x57 :: 0xa7 :: 0x00 :: 0xc2 :: 0x2b :: 0x2a :: 0x1d :: 0x04 :: 0x60 :: 0x2e :: 0x2a :: RB_cL_law_77
def RB_cL_law_75 : List UInt8 := 0x05 :: 0x60 :: 0x2e :: 0x2a :: 0x1d :: 0x06 :: 0x60 :: 0x2e :: 0x2a :: 0x1d :: 0x07 :: 0x60 :: 0x2e :: 0x2a :: 0x1d :: 0x08 :: RB_cL_law_76
def RB_cL_law_74 : List UInt8 := 0x1d :: 0x08 :: 0x60 :: 0x2e :: 0xb6 :: 0x00 :: 0x7c :: 0x57 :: 0x2c :: 0x2a :: 0x1d :: 0x04 :: 0x60 :: 0x2e :: 0x2a :: 0x1d :: RB_cL_law_75
def RB_cL_law_73 : List UInt8 := 0x2a :: 0x1d :: 0x05 :: 0x60 :: 0x2e :: 0x2a :: 0x1d :: 0x06 :: 0x60 :: 0x2e :: 0x2a :: 0x1d :: 0x07 :: 0x60 :: 0x2e :: 0x2a :: RB_cL_law_74
def RB_cL_law_72 : List UInt8 := 0x06 :: 0x60 :: 0x2e :: 0xb6 :: 0x00 :: 0x7b :: 0x58 :: 0xa7 :: 0x01 :: 0x01 :: 0x2b :: 0x2a :: 0x1d :: 0x04 :: 0x60 :: 0x2e :: RB_cL_law_73
def RB_cL_law_71 : List UInt8 := 0x00 :: 0x78 :: 0x58 :: 0x2c :: 0x2a :: 0x1d :: 0x04 :: 0x60 :: 0x2e :: 0x2a :: 0x1d :: 0x05 :: 0x60 :: 0x2e :: 0x2a :: 0x1d :: RB_cL_law_72
def RB_cL_law_70 : List UInt8 := 0x2a :: 0x1d :: 0x04 :: 0x60 :: 0x2e :: 0x2a :: 0x1d :: 0x05 :: 0x60 :: 0x2e :: 0x2a :: 0x1d :: 0x06 :: 0x60 :: 0x2e :: 0xb6 :: RB_cL_law_71
def RB_cL_law_69 : List UInt8 := 0x05 :: 0x60 :: 0x2e :: 0x2a :: 0x1d :: 0x06 :: 0x60 :: 0x2e :: 0xb6 :: 0x00 :: 0x77 :: 0x57 :: 0xa7 :: 0x01 :: 0x2c :: 0x2b :: RB_cL_law_70
def RB_cL_law_68 : List UInt8 := 0x1d :: 0x06 :: 0x60 :: 0x2e :: 0xb6 :: 0x00 :: 0x74 :: 0x57 :: 0x2c :: 0x2a :: 0x1d :: 0x04 :: 0x60 :: 0x2e :: 0x2a :: 0x1d :: RB_cL_law_69
def RB_cL_law_67 : List UInt8 := 0x57 :: 0xa7 :: 0x01 :: 0x57 :: 0x2b :: 0x2a :: 0x1d :: 0x04 :: 0x60 :: 0x2e :: 0x2a :: 0x1d :: 0x05 :: 0x60 :: 0x2e :: 0x2a :: RB_cL_law_68
def RB_cL_law_66 : List UInt8 := 0x04 :: 0x60 :: 0x2e :: 0xb6 :: 0x00 :: 0x70 :: 0x57 :: 0x2c :: 0x2a :: 0x1d :: 0x04 :: 0x60 :: 0x2e :: 0xb6 :: 0x00 :: 0x73 :: RB_cL_law_67
def RB_cL_law_65 : List UInt8 := 0x2e :: 0x2a :: 0x1d :: 0x06 :: 0x60 :: 0x2e :: 0xb6 :: 0x00 :: 0x6f :: 0x57 :: 0xa7 :: 0x01 :: 0x6e :: 0x2b :: 0x2a :: 0x1d :: RB_cL_law_66
def RB_cL_law_64 : List UInt8 := 0x60 :: 0x2e :: 0xb6 :: 0x00 :: 0x6c :: 0x57 :: 0x2c :: 0x2a :: 0x1d :: 0x04 :: 0x60 :: 0x2e :: 0x2a :: 0x1d :: 0x05 :: 0x60 :: RB_cL_law_65
def RB_cL_law_63 : List UInt8 := 0x01 :: 0x99 :: 0x2b :: 0x2a :: 0x1d :: 0x04 :: 0x60 :: 0x2e :: 0x2a :: 0x1d :: 0x05 :: 0x60 :: 0x2e :: 0x2a :: 0x1d :: 0x06 :: RB_cL_law_64
def RB_cL_law_62 : List UInt8 := 0x2e :: 0x2a :: 0x1d :: 0x05 :: 0x60 :: 0x2e :: 0x2a :: 0x1d :: 0x06 :: 0x60 :: 0x2e :: 0xb6 :: 0x00 :: 0x6b :: 0x58 :: 0xa7 :: RB_cL_law_63
def RB_cL_law_61 : List UInt8 := 0x60 :: 0x2e :: 0x2a :: 0x1d :: 0x06 :: 0x60 :: 0x2e :: 0xb6 :: 0x00 :: 0x68 :: 0x58 :: 0x2c :: 0x2a :: 0x1d :: 0x04 :: 0x60 :: RB_cL_law_62
def RB_cL_law_60 : List UInt8 := 0xb6 :: 0x00 :: 0x67 :: 0x57 :: 0xa7 :: 0x01 :: 0xc4 :: 0x2b :: 0x2a :: 0x1d :: 0x04 :: 0x60 :: 0x2e :: 0x2a :: 0x1d :: 0x05 :: RB_cL_law_61
def RB_cL_law_59 : List UInt8 := 0x2e :: 0xb6 :: 0x00 :: 0x64 :: 0x57 :: 0x2c :: 0x2a :: 0x1d :: 0x04 :: 0x60 :: 0x2e :: 0x2a :: 0x1d :: 0x05 :: 0x60 :: 0x2e :: RB_cL_law_60
def RB_cL_law_58 : List UInt8 := 0x00 :: 0x63 :: 0x58 :: 0xa7 :: 0x01 :: 0xe5 :: 0x2b :: 0x2a :: 0x1d :: 0x04 :: 0x60 :: 0x2e :: 0x2a :: 0x1d :: 0x05 :: 0x60 :: RB_cL_law_59
def RB_cL_law_57 : List UInt8 := 0x2a :: 0x1d :: 0x05 :: 0x60 :: 0x2e :: 0x2a :: 0x1d :: 0x06 :: 0x60 :: 0x2e :: 0x2a :: 0x1d :: 0x07 :: 0x60 :: 0x2e :: 0xb6 :: RB_cL_law_58
def RB_cL_law_56 : List UInt8 := 0x2e :: 0x2a :: 0x1d :: 0x07 :: 0x60 :: 0x2e :: 0xb6 :: 0x00 :: 0x5f :: 0x58 :: 0x2c :: 0x2a :: 0x1d :: 0x04 :: 0x60 :: 0x2e :: RB_cL_law_57
def RB_cL_law_55 : List UInt8 := 0x1a :: 0x2b :: 0x2a :: 0x1d :: 0x04 :: 0x60 :: 0x2e :: 0x2a :: 0x1d :: 0x05 :: 0x60 :: 0x2e :: 0x2a :: 0x1d :: 0x06 :: 0x60 :: RB_cL_law_56
def RB_cL_law_54 : List UInt8 := 0x2a :: 0x1d :: 0x04 :: 0x60 :: 0x2e :: 0x2a :: 0x1d :: 0x05 :: 0x60 :: 0x2e :: 0xb6 :: 0x00 :: 0x5e :: 0x57 :: 0xa7 :: 0x02 :: RB_cL_law_55
def RB_cL_law_53 : List UInt8 := 0x2b :: 0x2a :: 0x1d :: 0x04 :: 0x60 :: 0x2e :: 0x2a :: 0x1d :: 0x05 :: 0x60 :: 0x2e :: 0xb6 :: 0x00 :: 0x5b :: 0x57 :: 0x2c :: RB_cL_law_54
def RB_cL_law_52 : List UInt8 := 0x1d :: 0x04 :: 0x60 :: 0x2e :: 0x2a :: 0x1d :: 0x05 :: 0x60 :: 0x2e :: 0xb6 :: 0x00 :: 0x5a :: 0x57 :: 0xa7 :: 0x02 :: 0x3b :: RB_cL_law_53
def RB_cL_law_51 : List UInt8 := 0x2a :: 0x1d :: 0x04 :: 0x60 :: 0x2e :: 0x2a :: 0x1d :: 0x05 :: 0x60 :: 0x2e :: 0xb6 :: 0x00 :: 0x57 :: 0x57 :: 0x2c :: 0x2a :: RB_cL_law_52
def RB_cL_law_50 : List UInt8 := 0x05 :: 0x60 :: 0x2e :: 0x2a :: 0x1d :: 0x06 :: 0x60 :: 0x2e :: 0xb6 :: 0x00 :: 0x56 :: 0x57 :: 0xa7 :: 0x02 :: 0x5c :: 0x2b :: RB_cL_law_51
def RB_cL_law_49 : List UInt8 := 0x1d :: 0x06 :: 0x60 :: 0x2e :: 0xb6 :: 0x00 :: 0x53 :: 0x57 :: 0x2c :: 0x2a :: 0x1d :: 0x04 :: 0x60 :: 0x2e :: 0x2a :: 0x1d :: RB_cL_law_50
def RB_cL_law_48 : List UInt8 := 0x57 :: 0xa7 :: 0x02 :: 0x87 :: 0x2b :: 0x2a :: 0x1d :: 0x04 :: 0x60 :: 0x2e :: 0x2a :: 0x1d :: 0x05 :: 0x60 :: 0x2e :: 0x2a :: RB_cL_law_49
def RB_cL_law_47 : List UInt8 := 0x04 :: 0x60 :: 0x2e :: 0xb6 :: 0x00 :: 0x4f :: 0x57 :: 0x2c :: 0x2a :: 0x1d :: 0x04 :: 0x60 :: 0x2e :: 0xb6 :: 0x00 :: 0x52 :: RB_cL_law_48
def RB_cL_law_46 : List UInt8 := 0x2e :: 0x2a :: 0x1d :: 0x06 :: 0x60 :: 0x2e :: 0xb6 :: 0x00 :: 0x4e :: 0x58 :: 0xa7 :: 0x02 :: 0x9e :: 0x2b :: 0x2a :: 0x1d :: RB_cL_law_47
def RB_cL_law_45 : List UInt8 := 0x60 :: 0x2e :: 0xb6 :: 0x00 :: 0x4b :: 0x58 :: 0x2c :: 0x2a :: 0x1d :: 0x04 :: 0x60 :: 0x2e :: 0x2a :: 0x1d :: 0x05 :: 0x60 :: RB_cL_law_46
def RB_cL_law_44 : List UInt8 := 0x02 :: 0xc9 :: 0x2b :: 0x2a :: 0x1d :: 0x04 :: 0x60 :: 0x2e :: 0x2a :: 0x1d :: 0x05 :: 0x60 :: 0x2e :: 0x2a :: 0x1d :: 0x06 :: RB_cL_law_45
def RB_cL_law_43 : List UInt8 := 0x2e :: 0xb6 :: 0x00 :: 0x46 :: 0x58 :: 0x2c :: 0x2a :: 0x1d :: 0x04 :: 0x60 :: 0x2e :: 0xb6 :: 0x00 :: 0x4a :: 0x58 :: 0xa7 :: RB_cL_law_44
def RB_cL_law_42 : List UInt8 := 0x1d :: 0x05 :: 0x60 :: 0x2e :: 0xb6 :: 0x00 :: 0x45 :: 0x57 :: 0xa7 :: 0x02 :: 0xe0 :: 0x2b :: 0x2a :: 0x1d :: 0x04 :: 0x60 :: RB_cL_law_43
def RB_cL_law_41 : List UInt8 := 0x2a :: 0x1d :: 0x05 :: 0x60 :: 0x2e :: 0xb6 :: 0x00 :: 0x42 :: 0x57 :: 0x2c :: 0x2a :: 0x1d :: 0x04 :: 0x60 :: 0x2e :: 0x2a :: RB_cL_law_42
def RB_cL_law_40 : List UInt8 := 0x06 :: 0x60 :: 0x2e :: 0xb6 :: 0x00 :: 0x41 :: 0x57 :: 0xa7 :: 0x03 :: 0x01 :: 0x2b :: 0x2a :: 0x1d :: 0x04 :: 0x60 :: 0x2e :: RB_cL_law_41
def RB_cL_law_39 : List UInt8 := 0x00 :: 0x3e :: 0x57 :: 0x2c :: 0x2a :: 0x1d :: 0x04 :: 0x60 :: 0x2e :: 0x2a :: 0x1d :: 0x05 :: 0x60 :: 0x2e :: 0x2a :: 0x1d :: RB_cL_law_40
def RB_cL_law_38 : List UInt8 := 0x2a :: 0x1d :: 0x04 :: 0x60 :: 0x2e :: 0x2a :: 0x1d :: 0x05 :: 0x60 :: 0x2e :: 0x2a :: 0x1d :: 0x06 :: 0x60 :: 0x2e :: 0xb6 :: RB_cL_law_39
def RB_cL_law_37 : List UInt8 := 0x04 :: 0x60 :: 0x2e :: 0x2a :: 0x1d :: 0x05 :: 0x60 :: 0x2e :: 0xb6 :: 0x00 :: 0x3d :: 0x57 :: 0xa7 :: 0x03 :: 0x2c :: 0x2b :: RB_cL_law_38
def RB_cL_law_36 : List UInt8 := 0x1d :: 0x04 :: 0x60 :: 0x2e :: 0x2a :: 0x1d :: 0x05 :: 0x60 :: 0x2e :: 0xb6 :: 0x00 :: 0x3a :: 0x57 :: 0x2c :: 0x2a :: 0x1d :: RB_cL_law_37
def RB_cL_law_35 : List UInt8 := 0x60 :: 0x2e :: 0x2a :: 0x1d :: 0x07 :: 0x60 :: 0x2e :: 0xb6 :: 0x00 :: 0x39 :: 0x57 :: 0xa7 :: 0x03 :: 0x4d :: 0x2b :: 0x2a :: RB_cL_law_36
def RB_cL_law_34 : List UInt8 := 0x36 :: 0x57 :: 0x2c :: 0x2a :: 0x1d :: 0x04 :: 0x60 :: 0x2e :: 0x2a :: 0x1d :: 0x05 :: 0x60 :: 0x2e :: 0x2a :: 0x1d :: 0x06 :: RB_cL_law_35
def RB_cL_law_33 : List UInt8 := 0x1d :: 0x05 :: 0x60 :: 0x2e :: 0x2a :: 0x1d :: 0x06 :: 0x60 :: 0x2e :: 0x2a :: 0x1d :: 0x07 :: 0x60 :: 0x2e :: 0xb6 :: 0x00 :: RB_cL_law_34
def RB_cL_law_32 : List UInt8 := 0x60 :: 0x2e :: 0xb6 :: 0x00 :: 0x35 :: 0x57 :: 0xa7 :: 0x03 :: 0x82 :: 0x2b :: 0x2a :: 0x1d :: 0x04 :: 0x60 :: 0x2e :: 0x2a :: RB_cL_law_33
def RB_cL_law_31 : List UInt8 := 0x03 :: 0x99 :: 0x2b :: 0x2a :: 0x1d :: 0x04 :: 0x60 :: 0x2e :: 0xb6 :: 0x00 :: 0x32 :: 0x57 :: 0x2c :: 0x2a :: 0x1d :: 0x04 :: RB_cL_law_32
def RB_cL_law_30 : List UInt8 := 0x2e :: 0xb6 :: 0x00 :: 0x2e :: 0x57 :: 0x2c :: 0x2a :: 0x1d :: 0x04 :: 0x60 :: 0x2e :: 0xb6 :: 0x00 :: 0x31 :: 0x57 :: 0xa7 :: RB_cL_law_31
def RB_cL_law_29 : List UInt8 := 0x1d :: 0x06 :: 0x60 :: 0x2e :: 0xb6 :: 0x00 :: 0x2d :: 0x58 :: 0xa7 :: 0x03 :: 0xb0 :: 0x2b :: 0x2a :: 0x1d :: 0x04 :: 0x60 :: RB_cL_law_30
def RB_cL_law_28 : List UInt8 := 0xb6 :: 0x00 :: 0x29 :: 0x58 :: 0x2c :: 0x2a :: 0x1d :: 0x04 :: 0x60 :: 0x2e :: 0x2a :: 0x1d :: 0x05 :: 0x60 :: 0x2e :: 0x2a :: RB_cL_law_29
def RB_cL_law_27 : List UInt8 := 0x2b :: 0x2a :: 0x1d :: 0x04 :: 0x60 :: 0x2e :: 0x2a :: 0x1d :: 0x05 :: 0x60 :: 0x2e :: 0x2a :: 0x1d :: 0x06 :: 0x60 :: 0x2e :: RB_cL_law_28
def RB_cL_law_26 : List UInt8 := 0x1d :: 0x05 :: 0x60 :: 0x2e :: 0x2a :: 0x1d :: 0x06 :: 0x60 :: 0x2e :: 0xb6 :: 0x00 :: 0x28 :: 0x57 :: 0xa7 :: 0x03 :: 0xdb :: RB_cL_law_27
def RB_cL_law_25 : List UInt8 := 0x2a :: 0x1d :: 0x06 :: 0x60 :: 0x2e :: 0xb6 :: 0x00 :: 0x25 :: 0x57 :: 0x2c :: 0x2a :: 0x1d :: 0x04 :: 0x60 :: 0x2e :: 0x2a :: RB_cL_law_26
def RB_cL_law_24 : List UInt8 := 0x24 :: 0x57 :: 0xa7 :: 0x04 :: 0x06 :: 0x2b :: 0x2a :: 0x1d :: 0x04 :: 0x60 :: 0x2e :: 0x2a :: 0x1d :: 0x05 :: 0x60 :: 0x2e :: RB_cL_law_25
def RB_cL_law_23 : List UInt8 := 0x1d :: 0x05 :: 0x60 :: 0x2e :: 0x2a :: 0x1d :: 0x06 :: 0x60 :: 0x2e :: 0x2a :: 0x1d :: 0x07 :: 0x60 :: 0x2e :: 0xb6 :: 0x00 :: RB_cL_law_24
def RB_cL_law_22 : List UInt8 := 0x2a :: 0x1d :: 0x07 :: 0x60 :: 0x2e :: 0xb6 :: 0x00 :: 0x21 :: 0x57 :: 0x2c :: 0x2a :: 0x1d :: 0x04 :: 0x60 :: 0x2e :: 0x2a :: RB_cL_law_23
def RB_cL_law_21 : List UInt8 := 0x2b :: 0x2a :: 0x1d :: 0x04 :: 0x60 :: 0x2e :: 0x2a :: 0x1d :: 0x05 :: 0x60 :: 0x2e :: 0x2a :: 0x1d :: 0x06 :: 0x60 :: 0x2e :: RB_cL_law_22
def RB_cL_law_20 : List UInt8 := 0x1d :: 0x04 :: 0x60 :: 0x2e :: 0x2a :: 0x1d :: 0x05 :: 0x60 :: 0x2e :: 0xb6 :: 0x00 :: 0x20 :: 0x57 :: 0xa7 :: 0x04 :: 0x3b :: RB_cL_law_21
def RB_cL_law_19 : List UInt8 := 0x2a :: 0x1d :: 0x04 :: 0x60 :: 0x2e :: 0x2a :: 0x1d :: 0x05 :: 0x60 :: 0x2e :: 0xb6 :: 0x00 :: 0x1c :: 0x57 :: 0x2c :: 0x2a :: RB_cL_law_20
def RB_cL_law_18 : List UInt8 := 0x05 :: 0x60 :: 0x2e :: 0x2a :: 0x1d :: 0x06 :: 0x60 :: 0x2e :: 0xb6 :: 0x00 :: 0x1b :: 0x57 :: 0xa7 :: 0x04 :: 0x5c :: 0x2b :: RB_cL_law_19
def RB_cL_law_17 : List UInt8 := 0x1d :: 0x06 :: 0x60 :: 0x2e :: 0xb6 :: 0x00 :: 0x17 :: 0x57 :: 0x2c :: 0x2a :: 0x1d :: 0x04 :: 0x60 :: 0x2e :: 0x2a :: 0x1d :: RB_cL_law_18
def RB_cL_law_16 : List UInt8 := 0x57 :: 0xa7 :: 0x04 :: 0x87 :: 0x2b :: 0x2a :: 0x1d :: 0x04 :: 0x60 :: 0x2e :: 0x2a :: 0x1d :: 0x05 :: 0x60 :: 0x2e :: 0x2a :: RB_cL_law_17
def RB_cL_law_15 : List UInt8 := 0x05 :: 0x60 :: 0x2e :: 0x2a :: 0x1d :: 0x06 :: 0x60 :: 0x2e :: 0x2a :: 0x1d :: 0x07 :: 0x60 :: 0x2e :: 0xb6 :: 0x00 :: 0x16 :: RB_cL_law_16
def RB_cL_law_14 : List UInt8 := 0x1d :: 0x07 :: 0x60 :: 0x2e :: 0xb6 :: 0x00 :: 0x12 :: 0x57 :: 0x2c :: 0x2a :: 0x1d :: 0x04 :: 0x60 :: 0x2e :: 0x2a :: 0x1d :: RB_cL_law_15
def RB_cL_law_13 : List UInt8 := 0x2a :: 0x1d :: 0x04 :: 0x60 :: 0x2e :: 0x2a :: 0x1d :: 0x05 :: 0x60 :: 0x2e :: 0x2a :: 0x1d :: 0x06 :: 0x60 :: 0x2e :: 0x2a :: RB_cL_law_14
def RB_cL_law_12 : List UInt8 := 0x0d :: 0x57 :: 0x2c :: 0x2a :: 0x1d :: 0x04 :: 0x60 :: 0x2e :: 0xb6 :: 0x00 :: 0x11 :: 0x57 :: 0xa7 :: 0x04 :: 0xbc :: 0x2b :: RB_cL_law_13
def RB_cL_law_11 : List UInt8 := 0x00 :: 0x00 :: 0x05 :: 0x43 :: 0x00 :: 0x00 :: 0x05 :: 0x50 :: 0x2b :: 0x2a :: 0x1d :: 0x04 :: 0x60 :: 0x2e :: 0xb6 :: 0x00 :: RB_cL_law_12
def RB_cL_law_10 : List UInt8 := 0x00 :: 0x00 :: 0x04 :: 0xe7 :: 0x00 :: 0x00 :: 0x04 :: 0xfe :: 0x00 :: 0x00 :: 0x05 :: 0x15 :: 0x00 :: 0x00 :: 0x05 :: 0x36 :: RB_cL_law_11
def RB_cL_law_9 : List UInt8 := 0x00 :: 0x00 :: 0x04 :: 0x13 :: 0x00 :: 0x00 :: 0x04 :: 0x3e :: 0x00 :: 0x00 :: 0x04 :: 0x69 :: 0x00 :: 0x00 :: 0x04 :: 0xa8 :: RB_cL_law_10
def RB_cL_law_8 : List UInt8 := 0x00 :: 0x00 :: 0x03 :: 0x85 :: 0x00 :: 0x00 :: 0x03 :: 0xa6 :: 0x00 :: 0x00 :: 0x03 :: 0xd1 :: 0x00 :: 0x00 :: 0x03 :: 0xfc :: RB_cL_law_9
def RB_cL_law_7 : List UInt8 := 0x00 :: 0x00 :: 0x02 :: 0xe3 :: 0x00 :: 0x00 :: 0x03 :: 0x0e :: 0x00 :: 0x00 :: 0x03 :: 0x2f :: 0x00 :: 0x00 :: 0x03 :: 0x50 :: RB_cL_law_8
def RB_cL_law_6 : List UInt8 := 0x00 :: 0x00 :: 0x02 :: 0x69 :: 0x00 :: 0x00 :: 0x02 :: 0x8a :: 0x00 :: 0x00 :: 0x02 :: 0xa1 :: 0x00 :: 0x00 :: 0x02 :: 0xcc :: RB_cL_law_7
def RB_cL_law_5 : List UInt8 := 0x00 :: 0x00 :: 0x01 :: 0xd1 :: 0x00 :: 0x00 :: 0x01 :: 0xe8 :: 0x00 :: 0x00 :: 0x02 :: 0x1d :: 0x00 :: 0x00 :: 0x02 :: 0x3e :: RB_cL_law_6
def RB_cL_law_4 : List UInt8 := 0x00 :: 0x00 :: 0x01 :: 0x2f :: 0x00 :: 0x00 :: 0x01 :: 0x64 :: 0x00 :: 0x00 :: 0x01 :: 0x8f :: 0x00 :: 0x00 :: 0x01 :: 0xba :: RB_cL_law_5
def RB_cL_law_3 : List UInt8 := 0x00 :: 0x00 :: 0x00 :: 0x97 :: 0x00 :: 0x00 :: 0x00 :: 0xae :: 0x00 :: 0x00 :: 0x00 :: 0xe3 :: 0x00 :: 0x00 :: 0x01 :: 0x0e :: RB_cL_law_4
def RB_cL_law_2 : List UInt8 := 0x7e :: 0xaa :: 0x00 :: 0x00 :: 0x00 :: 0x00 :: 0x05 :: 0x67 :: 0x00 :: 0x00 :: 0x00 :: 0x00 :: 0x00 :: 0x00 :: 0x00 :: 0x21 :: RB_cL_law_3
def RB_cL_law_1 : List UInt8 := 0x03 :: 0x3e :: 0x1d :: 0x2a :: 0xbe :: 0x10 :: 0x06 :: 0x64 :: 0xa3 :: 0x05 :: 0x76 :: 0x2a :: 0x1d :: 0x2e :: 0x10 :: 0x3f :: RB_cL_law_2
def RB_cL_law_0 : List UInt8 := 0xbb :: 0x00 :: 0x07 :: 0x59 :: 0xb7 :: 0x00 :: 0x09 :: 0x4c :: 0xbb :: 0x00 :: 0x0a :: 0x59 :: 0xb7 :: 0x00 :: 0x0c :: 0x4d :: RB_cL_law_1
theorem tB_cL_law_0 : cL_law.data.toList.drop 0 = RB_cL_law_0 := by decide +kernel
theorem tB_cL_law_1 : cL_law.data.toList.drop 16 = RB_cL_law_1 := od_st tB_cL_law_0 16 rfl
theorem tB_cL_law_2 : cL_law.data.toList.drop 32 = RB_cL_law_2 := od_st tB_cL_law_1 16 rfl
theorem tB_cL_law_3 : cL_law.data.toList.drop 48 = RB_cL_law_3 := od_st tB_cL_law_2 16 rfl
theorem tB_cL_law_4 : cL_law.data.toList.drop 64 = RB_cL_law_4 := od_st tB_cL_law_3 16 rfl
theorem tB_cL_law_5 : cL_law.data.toList.drop 80 = RB_cL_law_5 := od_st tB_cL_law_4 16 rfl
theorem tB_cL_law_6 : cL_law.data.toList.drop 96 = RB_cL_law_6 := od_st tB_cL_law_5 16 rfl
theorem tB_cL_law_7 : cL_law.data.toList.drop 112 = RB_cL_law_7 := od_st tB_cL_law_6 16 rfl
theorem tB_cL_law_8 : cL_law.data.toList.drop 128 = RB_cL_law_8 := od_st tB_cL_law_7 16 rfl
theorem tB_cL_law_9 : cL_law.data.toList.drop 144 = RB_cL_law_9 := od_st tB_cL_law_8 16 rfl
theorem tB_cL_law_10 : cL_law.data.toList.drop 160 = RB_cL_law_10 := od_st tB_cL_law_9 16 rfl
theorem tB_cL_law_11 : cL_law.data.toList.drop 176 = RB_cL_law_11 := od_st tB_cL_law_10 16 rfl
theorem tB_cL_law_12 : cL_law.data.toList.drop 192 = RB_cL_law_12 := od_st tB_cL_law_11 16 rfl
theorem tB_cL_law_13 : cL_law.data.toList.drop 208 = RB_cL_law_13 := od_st tB_cL_law_12 16 rfl
theorem tB_cL_law_14 : cL_law.data.toList.drop 224 = RB_cL_law_14 := od_st tB_cL_law_13 16 rfl
theorem tB_cL_law_15 : cL_law.data.toList.drop 240 = RB_cL_law_15 := od_st tB_cL_law_14 16 rfl
theorem tB_cL_law_16 : cL_law.data.toList.drop 256 = RB_cL_law_16 := od_st tB_cL_law_15 16 rfl
theorem tB_cL_law_17 : cL_law.data.toList.drop 272 = RB_cL_law_17 := od_st tB_cL_law_16 16 rfl
theorem tB_cL_law_18 : cL_law.data.toList.drop 288 = RB_cL_law_18 := od_st tB_cL_law_17 16 rfl
theorem tB_cL_law_19 : cL_law.data.toList.drop 304 = RB_cL_law_19 := od_st tB_cL_law_18 16 rfl
theorem tB_cL_law_20 : cL_law.data.toList.drop 320 = RB_cL_law_20 := od_st tB_cL_law_19 16 rfl
theorem tB_cL_law_21 : cL_law.data.toList.drop 336 = RB_cL_law_21 := od_st tB_cL_law_20 16 rfl
theorem tB_cL_law_22 : cL_law.data.toList.drop 352 = RB_cL_law_22 := od_st tB_cL_law_21 16 rfl
theorem tB_cL_law_23 : cL_law.data.toList.drop 368 = RB_cL_law_23 := od_st tB_cL_law_22 16 rfl
theorem tB_cL_law_24 : cL_law.data.toList.drop 384 = RB_cL_law_24 := od_st tB_cL_law_23 16 rfl
theorem tB_cL_law_25 : cL_law.data.toList.drop 400 = RB_cL_law_25 := od_st tB_cL_law_24 16 rfl
theorem tB_cL_law_26 : cL_law.data.toList.drop 416 = RB_cL_law_26 := od_st tB_cL_law_25 16 rfl
theorem tB_cL_law_27 : cL_law.data.toList.drop 432 = RB_cL_law_27 := od_st tB_cL_law_26 16 rfl
theorem tB_cL_law_28 : cL_law.data.toList.drop 448 = RB_cL_law_28 := od_st tB_cL_law_27 16 rfl
theorem tB_cL_law_29 : cL_law.data.toList.drop 464 = RB_cL_law_29 := od_st tB_cL_law_28 16 rfl
theorem tB_cL_law_30 : cL_law.data.toList.drop 480 = RB_cL_law_30 := od_st tB_cL_law_29 16 rfl
theorem tB_cL_law_31 : cL_law.data.toList.drop 496 = RB_cL_law_31 := od_st tB_cL_law_30 16 rfl
theorem tB_cL_law_32 : cL_law.data.toList.drop 512 = RB_cL_law_32 := od_st tB_cL_law_31 16 rfl
theorem tB_cL_law_33 : cL_law.data.toList.drop 528 = RB_cL_law_33 := od_st tB_cL_law_32 16 rfl
theorem tB_cL_law_34 : cL_law.data.toList.drop 544 = RB_cL_law_34 := od_st tB_cL_law_33 16 rfl
theorem tB_cL_law_35 : cL_law.data.toList.drop 560 = RB_cL_law_35 := od_st tB_cL_law_34 16 rfl
theorem tB_cL_law_36 : cL_law.data.toList.drop 576 = RB_cL_law_36 := od_st tB_cL_law_35 16 rfl
theorem tB_cL_law_37 : cL_law.data.toList.drop 592 = RB_cL_law_37 := od_st tB_cL_law_36 16 rfl
theorem tB_cL_law_38 : cL_law.data.toList.drop 608 = RB_cL_law_38 := od_st tB_cL_law_37 16 rfl
theorem tB_cL_law_39 : cL_law.data.toList.drop 624 = RB_cL_law_39 := od_st tB_cL_law_38 16 rfl
theorem tB_cL_law_40 : cL_law.data.toList.drop 640 = RB_cL_law_40 := od_st tB_cL_law_39 16 rfl
theorem tB_cL_law_41 : cL_law.data.toList.drop 656 = RB_cL_law_41 := od_st tB_cL_law_40 16 rfl
theorem tB_cL_law_42 : cL_law.data.toList.drop 672 = RB_cL_law_42 := od_st tB_cL_law_41 16 rfl
theorem tB_cL_law_43 : cL_law.data.toList.drop 688 = RB_cL_law_43 := od_st tB_cL_law_42 16 rfl
theorem tB_cL_law_44 : cL_law.data.toList.drop 704 = RB_cL_law_44 := od_st tB_cL_law_43 16 rfl
theorem tB_cL_law_45 : cL_law.data.toList.drop 720 = RB_cL_law_45 := od_st tB_cL_law_44 16 rfl
theorem tB_cL_law_46 : cL_law.data.toList.drop 736 = RB_cL_law_46 := od_st tB_cL_law_45 16 rfl
theorem tB_cL_law_47 : cL_law.data.toList.drop 752 = RB_cL_law_47 := od_st tB_cL_law_46 16 rfl
theorem tB_cL_law_48 : cL_law.data.toList.drop 768 = RB_cL_law_48 := od_st tB_cL_law_47 16 rfl
theorem tB_cL_law_49 : cL_law.data.toList.drop 784 = RB_cL_law_49 := od_st tB_cL_law_48 16 rfl
theorem tB_cL_law_50 : cL_law.data.toList.drop 800 = RB_cL_law_50 := od_st tB_cL_law_49 16 rfl
theorem tB_cL_law_51 : cL_law.data.toList.drop 816 = RB_cL_law_51 := od_st tB_cL_law_50 16 rfl
theorem tB_cL_law_52 : cL_law.data.toList.drop 832 = RB_cL_law_52 := od_st tB_cL_law_51 16 rfl
theorem tB_cL_law_53 : cL_law.data.toList.drop 848 = RB_cL_law_53 := od_st tB_cL_law_52 16 rfl
theorem tB_cL_law_54 : cL_law.data.toList.drop 864 = RB_cL_law_54 := od_st tB_cL_law_53 16 rfl
theorem tB_cL_law_55 : cL_law.data.toList.drop 880 = RB_cL_law_55 := od_st tB_cL_law_54 16 rfl
theorem tB_cL_law_56 : cL_law.data.toList.drop 896 = RB_cL_law_56 := od_st tB_cL_law_55 16 rfl
theorem tB_cL_law_57 : cL_law.data.toList.drop 912 = RB_cL_law_57 := od_st tB_cL_law_56 16 rfl
theorem tB_cL_law_58 : cL_law.data.toList.drop 928 = RB_cL_law_58 := od_st tB_cL_law_57 16 rfl
theorem tB_cL_law_59 : cL_law.data.toList.drop 944 = RB_cL_law_59 := od_st tB_cL_law_58 16 rfl
theorem tB_cL_law_60 : cL_law.data.toList.drop 960 = RB_cL_law_60 := od_st tB_cL_law_59 16 rfl
theorem tB_cL_law_61 : cL_law.data.toList.drop 976 = RB_cL_law_61 := od_st tB_cL_law_60 16 rfl
theorem tB_cL_law_62 : cL_law.data.toList.drop 992 = RB_cL_law_62 := od_st tB_cL_law_61 16 rfl
theorem tB_cL_law_63 : cL_law.data.toList.drop 1008 = RB_cL_law_63 := od_st tB_cL_law_62 16 rfl
theorem tB_cL_law_64 : cL_law.data.toList.drop 1024 = RB_cL_law_64 := od_st tB_cL_law_63 16 rfl
theorem tB_cL_law_65 : cL_law.data.toList.drop 1040 = RB_cL_law_65 := od_st tB_cL_law_64 16 rfl
theorem tB_cL_law_66 : cL_law.data.toList.drop 1056 = RB_cL_law_66 := od_st tB_cL_law_65 16 rfl
theorem tB_cL_law_67 : cL_law.data.toList.drop 1072 = RB_cL_law_67 := od_st tB_cL_law_66 16 rfl
theorem tB_cL_law_68 : cL_law.data.toList.drop 1088 = RB_cL_law_68 := od_st tB_cL_law_67 16 rfl
theorem tB_cL_law_69 : cL_law.data.toList.drop 1104 = RB_cL_law_69 := od_st tB_cL_law_68 16 rfl
theorem tB_cL_law_70 : cL_law.data.toList.drop 1120 = RB_cL_law_70 := od_st tB_cL_law_69 16 rfl
theorem tB_cL_law_71 : cL_law.data.toList.drop 1136 = RB_cL_law_71 := od_st tB_cL_law_70 16 rfl
theorem tB_cL_law_72 : cL_law.data.toList.drop 1152 = RB_cL_law_72 := od_st tB_cL_law_71 16 rfl
theorem tB_cL_law_73 : cL_law.data.toList.drop 1168 = RB_cL_law_73 := od_st tB_cL_law_72 16 rfl
theorem tB_cL_law_74 : cL_law.data.toList.drop 1184 = RB_cL_law_74 := od_st tB_cL_law_73 16 rfl
theorem tB_cL_law_75 : cL_law.data.toList.drop 1200 = RB_cL_law_75 := od_st tB_cL_law_74 16 rfl
theorem tB_cL_law_76 : cL_law.data.toList.drop 1216 = RB_cL_law_76 := od_st tB_cL_law_75 16 rfl
theorem tB_cL_law_77 : cL_law.data.toList.drop 1232 = RB_cL_law_77 := od_st tB_cL_law_76 16 rfl
theorem tB_cL_law_78 : cL_law.data.toList.drop 1248 = RB_cL_law_78 := od_st tB_cL_law_77 16 rfl
theorem tB_cL_law_79 : cL_law.data.toList.drop 1264 = RB_cL_law_79 := od_st tB_cL_law_78 16 rfl
theorem tB_cL_law_80 : cL_law.data.toList.drop 1280 = RB_cL_law_80 := od_st tB_cL_law_79 16 rfl
theorem tB_cL_law_81 : cL_law.data.toList.drop 1296 = RB_cL_law_81 := od_st tB_cL_law_80 16 rfl
theorem tB_cL_law_82 : cL_law.data.toList.drop 1312 = RB_cL_law_82 := od_st tB_cL_law_81 16 rfl
theorem tB_cL_law_83 : cL_law.data.toList.drop 1328 = RB_cL_law_83 := od_st tB_cL_law_82 16 rfl
theorem tB_cL_law_84 : cL_law.data.toList.drop 1344 = RB_cL_law_84 := od_st tB_cL_law_83 16 rfl
theorem tB_cL_law_85 : cL_law.data.toList.drop 1360 = RB_cL_law_85 := od_st tB_cL_law_84 16 rfl
theorem tB_cL_law_86 : cL_law.data.toList.drop 1376 = RB_cL_law_86 := od_st tB_cL_law_85 16 rfl
theorem tB_cL_law_87 : cL_law.data.toList.drop 1392 = RB_cL_law_87 := od_st tB_cL_law_86 16 rfl
theorem tB_cL_law_88 : cL_law.data.toList.drop 1408 = RB_cL_law_88 := od_st tB_cL_law_87 16 rfl
theorem dL_law_0 : decode cL_law 0 = .ok (.new 7, 3) := od_187 (od_at tB_cL_law_0 0 rfl) (od_at tB_cL_law_0 1 rfl) (od_at tB_cL_law_0 2 rfl) rfl
theorem dL_law_3 : decode cL_law 3 = .ok (.dup, 1) := od_89 (od_at tB_cL_law_0 3 rfl)
theorem dL_law_4 : decode cL_law 4 = .ok (.invokespecial 9, 3) := od_183 (od_at tB_cL_law_0 4 rfl) (od_at tB_cL_law_0 5 rfl) (od_at tB_cL_law_0 6 rfl) rfl
theorem dL_law_7 : decode cL_law 7 = .ok (.astore_n 1, 1) := od_76 (od_at tB_cL_law_0 7 rfl)
theorem dL_law_8 : decode cL_law 8 = .ok (.new 10, 3) := od_187 (od_at tB_cL_law_0 8 rfl) (od_at tB_cL_law_0 9 rfl) (od_at tB_cL_law_0 10 rfl) rfl
theorem dL_law_11 : decode cL_law 11 = .ok (.dup, 1) := od_89 (od_at tB_cL_law_0 11 rfl)
theorem dL_law_12 : decode cL_law 12 = .ok (.invokespecial 12, 3) := od_183 (od_at tB_cL_law_0 12 rfl) (od_at tB_cL_law_0 13 rfl) (od_at tB_cL_law_0 14 rfl) rfl
theorem dL_law_15 : decode cL_law 15 = .ok (.astore_n 2, 1) := od_77 (od_at tB_cL_law_0 15 rfl)
theorem dL_law_16 : decode cL_law 16 = .ok (.iconst 0, 1) := od_3 (od_at tB_cL_law_1 0 rfl)
theorem dL_law_17 : decode cL_law 17 = .ok (.istore_n 3, 1) := od_62 (od_at tB_cL_law_1 1 rfl)
theorem dL_law_18 : decode cL_law 18 = .ok (.iload_n 3, 1) := od_29 (od_at tB_cL_law_1 2 rfl)
theorem dL_law_19 : decode cL_law 19 = .ok (.aload_n 0, 1) := od_42 (od_at tB_cL_law_1 3 rfl)
theorem dL_law_20 : decode cL_law 20 = .ok (.arraylength, 1) := od_190 (od_at tB_cL_law_1 4 rfl)
theorem dL_law_21 : decode cL_law 21 = .ok (.bipush 6, 2) := od_16 (od_at tB_cL_law_1 5 rfl) (od_at tB_cL_law_1 6 rfl) (by decide +kernel)
theorem dL_law_23 : decode cL_law 23 = .ok (.isub, 1) := od_100 (od_at tB_cL_law_1 7 rfl)
theorem dL_law_24 : decode cL_law 24 = .ok (.if_icmp .gt 1398, 3) := od_163 (od_at tB_cL_law_1 8 rfl) (od_at tB_cL_law_1 9 rfl) (od_at tB_cL_law_1 10 rfl) (by decide +kernel)
theorem dL_law_27 : decode cL_law 27 = .ok (.aload_n 0, 1) := od_42 (od_at tB_cL_law_1 11 rfl)
theorem dL_law_28 : decode cL_law 28 = .ok (.iload_n 3, 1) := od_29 (od_at tB_cL_law_1 12 rfl)
theorem dL_law_29 : decode cL_law 29 = .ok (.iaload, 1) := od_46 (od_at tB_cL_law_1 13 rfl)
theorem dL_law_30 : decode cL_law 30 = .ok (.bipush 63, 2) := od_16 (od_at tB_cL_law_1 14 rfl) (od_at tB_cL_law_1 15 rfl) (by decide +kernel)
theorem dL_law_32 : decode cL_law 32 = .ok (.iand, 1) := od_126 (od_at tB_cL_law_2 0 rfl)
theorem dL_law_33 : decode cL_law 33 = .ok (.tableswitch 1383 0 33 #[151, 174, 227, 270, 303, 356, 399, 442, 465, 488, 541, 574, 617, 650, 673, 716, 739, 782, 815, 848, 901, 934, 977, 1020, 1043, 1086, 1129, 1192, 1255, 1278, 1301, 1334, 1347, 1360], 151) := by decide +kernel
theorem dL_law_184 : decode cL_law 184 = .ok (.aload_n 1, 1) := od_43 (od_at tB_cL_law_11 8 rfl)
theorem dL_law_185 : decode cL_law 185 = .ok (.aload_n 0, 1) := od_42 (od_at tB_cL_law_11 9 rfl)
theorem dL_law_186 : decode cL_law 186 = .ok (.iload_n 3, 1) := od_29 (od_at tB_cL_law_11 10 rfl)
theorem dL_law_187 : decode cL_law 187 = .ok (.iconst 1, 1) := od_4 (od_at tB_cL_law_11 11 rfl)
theorem dL_law_188 : decode cL_law 188 = .ok (.iadd, 1) := od_96 (od_at tB_cL_law_11 12 rfl)
theorem dL_law_189 : decode cL_law 189 = .ok (.iaload, 1) := od_46 (od_at tB_cL_law_11 13 rfl)
theorem dL_law_190 : decode cL_law 190 = .ok (.invokevirtual 13, 3) := od_182 (od_at tB_cL_law_11 14 rfl) (od_at tB_cL_law_11 15 rfl) (od_at tB_cL_law_11 16 rfl) rfl
theorem dL_law_193 : decode cL_law 193 = .ok (.pop, 1) := od_87 (od_at tB_cL_law_12 1 rfl)
theorem dL_law_194 : decode cL_law 194 = .ok (.aload_n 2, 1) := od_44 (od_at tB_cL_law_12 2 rfl)
theorem dL_law_195 : decode cL_law 195 = .ok (.aload_n 0, 1) := od_42 (od_at tB_cL_law_12 3 rfl)
theorem dL_law_196 : decode cL_law 196 = .ok (.iload_n 3, 1) := od_29 (od_at tB_cL_law_12 4 rfl)
theorem dL_law_197 : decode cL_law 197 = .ok (.iconst 1, 1) := od_4 (od_at tB_cL_law_12 5 rfl)
theorem dL_law_198 : decode cL_law 198 = .ok (.iadd, 1) := od_96 (od_at tB_cL_law_12 6 rfl)
theorem dL_law_199 : decode cL_law 199 = .ok (.iaload, 1) := od_46 (od_at tB_cL_law_12 7 rfl)
theorem dL_law_200 : decode cL_law 200 = .ok (.invokevirtual 17, 3) := od_182 (od_at tB_cL_law_12 8 rfl) (od_at tB_cL_law_12 9 rfl) (od_at tB_cL_law_12 10 rfl) rfl
theorem dL_law_203 : decode cL_law 203 = .ok (.pop, 1) := od_87 (od_at tB_cL_law_12 11 rfl)
theorem dL_law_204 : decode cL_law 204 = .ok (.goto 1212, 3) := od_167 (od_at tB_cL_law_12 12 rfl) (od_at tB_cL_law_12 13 rfl) (od_at tB_cL_law_12 14 rfl) (by decide +kernel)
theorem dL_law_207 : decode cL_law 207 = .ok (.aload_n 1, 1) := od_43 (od_at tB_cL_law_12 15 rfl)
theorem dL_law_208 : decode cL_law 208 = .ok (.aload_n 0, 1) := od_42 (od_at tB_cL_law_13 0 rfl)
theorem dL_law_209 : decode cL_law 209 = .ok (.iload_n 3, 1) := od_29 (od_at tB_cL_law_13 1 rfl)
theorem dL_law_210 : decode cL_law 210 = .ok (.iconst 1, 1) := od_4 (od_at tB_cL_law_13 2 rfl)
theorem dL_law_211 : decode cL_law 211 = .ok (.iadd, 1) := od_96 (od_at tB_cL_law_13 3 rfl)
theorem dL_law_212 : decode cL_law 212 = .ok (.iaload, 1) := od_46 (od_at tB_cL_law_13 4 rfl)
theorem dL_law_213 : decode cL_law 213 = .ok (.aload_n 0, 1) := od_42 (od_at tB_cL_law_13 5 rfl)
theorem dL_law_214 : decode cL_law 214 = .ok (.iload_n 3, 1) := od_29 (od_at tB_cL_law_13 6 rfl)
theorem dL_law_215 : decode cL_law 215 = .ok (.iconst 2, 1) := od_5 (od_at tB_cL_law_13 7 rfl)
theorem dL_law_216 : decode cL_law 216 = .ok (.iadd, 1) := od_96 (od_at tB_cL_law_13 8 rfl)
theorem dL_law_217 : decode cL_law 217 = .ok (.iaload, 1) := od_46 (od_at tB_cL_law_13 9 rfl)
theorem dL_law_218 : decode cL_law 218 = .ok (.aload_n 0, 1) := od_42 (od_at tB_cL_law_13 10 rfl)
theorem dL_law_219 : decode cL_law 219 = .ok (.iload_n 3, 1) := od_29 (od_at tB_cL_law_13 11 rfl)
theorem dL_law_220 : decode cL_law 220 = .ok (.iconst 3, 1) := od_6 (od_at tB_cL_law_13 12 rfl)
theorem dL_law_221 : decode cL_law 221 = .ok (.iadd, 1) := od_96 (od_at tB_cL_law_13 13 rfl)
theorem dL_law_222 : decode cL_law 222 = .ok (.iaload, 1) := od_46 (od_at tB_cL_law_13 14 rfl)
theorem dL_law_223 : decode cL_law 223 = .ok (.aload_n 0, 1) := od_42 (od_at tB_cL_law_13 15 rfl)
theorem dL_law_224 : decode cL_law 224 = .ok (.iload_n 3, 1) := od_29 (od_at tB_cL_law_14 0 rfl)
theorem dL_law_225 : decode cL_law 225 = .ok (.iconst 4, 1) := od_7 (od_at tB_cL_law_14 1 rfl)
theorem dL_law_226 : decode cL_law 226 = .ok (.iadd, 1) := od_96 (od_at tB_cL_law_14 2 rfl)
theorem dL_law_227 : decode cL_law 227 = .ok (.iaload, 1) := od_46 (od_at tB_cL_law_14 3 rfl)
theorem dL_law_228 : decode cL_law 228 = .ok (.invokevirtual 18, 3) := od_182 (od_at tB_cL_law_14 4 rfl) (od_at tB_cL_law_14 5 rfl) (od_at tB_cL_law_14 6 rfl) rfl
theorem dL_law_231 : decode cL_law 231 = .ok (.pop, 1) := od_87 (od_at tB_cL_law_14 7 rfl)
theorem dL_law_232 : decode cL_law 232 = .ok (.aload_n 2, 1) := od_44 (od_at tB_cL_law_14 8 rfl)
theorem dL_law_233 : decode cL_law 233 = .ok (.aload_n 0, 1) := od_42 (od_at tB_cL_law_14 9 rfl)
theorem dL_law_234 : decode cL_law 234 = .ok (.iload_n 3, 1) := od_29 (od_at tB_cL_law_14 10 rfl)
theorem dL_law_235 : decode cL_law 235 = .ok (.iconst 1, 1) := od_4 (od_at tB_cL_law_14 11 rfl)
theorem dL_law_236 : decode cL_law 236 = .ok (.iadd, 1) := od_96 (od_at tB_cL_law_14 12 rfl)
theorem dL_law_237 : decode cL_law 237 = .ok (.iaload, 1) := od_46 (od_at tB_cL_law_14 13 rfl)
theorem dL_law_238 : decode cL_law 238 = .ok (.aload_n 0, 1) := od_42 (od_at tB_cL_law_14 14 rfl)
theorem dL_law_239 : decode cL_law 239 = .ok (.iload_n 3, 1) := od_29 (od_at tB_cL_law_14 15 rfl)
theorem dL_law_240 : decode cL_law 240 = .ok (.iconst 2, 1) := od_5 (od_at tB_cL_law_15 0 rfl)
theorem dL_law_241 : decode cL_law 241 = .ok (.iadd, 1) := od_96 (od_at tB_cL_law_15 1 rfl)
theorem dL_law_242 : decode cL_law 242 = .ok (.iaload, 1) := od_46 (od_at tB_cL_law_15 2 rfl)
theorem dL_law_243 : decode cL_law 243 = .ok (.aload_n 0, 1) := od_42 (od_at tB_cL_law_15 3 rfl)
theorem dL_law_244 : decode cL_law 244 = .ok (.iload_n 3, 1) := od_29 (od_at tB_cL_law_15 4 rfl)
theorem dL_law_245 : decode cL_law 245 = .ok (.iconst 3, 1) := od_6 (od_at tB_cL_law_15 5 rfl)
theorem dL_law_246 : decode cL_law 246 = .ok (.iadd, 1) := od_96 (od_at tB_cL_law_15 6 rfl)
theorem dL_law_247 : decode cL_law 247 = .ok (.iaload, 1) := od_46 (od_at tB_cL_law_15 7 rfl)
theorem dL_law_248 : decode cL_law 248 = .ok (.aload_n 0, 1) := od_42 (od_at tB_cL_law_15 8 rfl)
theorem dL_law_249 : decode cL_law 249 = .ok (.iload_n 3, 1) := od_29 (od_at tB_cL_law_15 9 rfl)
theorem dL_law_250 : decode cL_law 250 = .ok (.iconst 4, 1) := od_7 (od_at tB_cL_law_15 10 rfl)
theorem dL_law_251 : decode cL_law 251 = .ok (.iadd, 1) := od_96 (od_at tB_cL_law_15 11 rfl)
theorem dL_law_252 : decode cL_law 252 = .ok (.iaload, 1) := od_46 (od_at tB_cL_law_15 12 rfl)
theorem dL_law_253 : decode cL_law 253 = .ok (.invokevirtual 22, 3) := od_182 (od_at tB_cL_law_15 13 rfl) (od_at tB_cL_law_15 14 rfl) (od_at tB_cL_law_15 15 rfl) rfl
theorem dL_law_256 : decode cL_law 256 = .ok (.pop, 1) := od_87 (od_at tB_cL_law_16 0 rfl)
theorem dL_law_257 : decode cL_law 257 = .ok (.goto 1159, 3) := od_167 (od_at tB_cL_law_16 1 rfl) (od_at tB_cL_law_16 2 rfl) (od_at tB_cL_law_16 3 rfl) (by decide +kernel)
theorem dL_law_260 : decode cL_law 260 = .ok (.aload_n 1, 1) := od_43 (od_at tB_cL_law_16 4 rfl)
theorem dL_law_261 : decode cL_law 261 = .ok (.aload_n 0, 1) := od_42 (od_at tB_cL_law_16 5 rfl)
theorem dL_law_262 : decode cL_law 262 = .ok (.iload_n 3, 1) := od_29 (od_at tB_cL_law_16 6 rfl)
theorem dL_law_263 : decode cL_law 263 = .ok (.iconst 1, 1) := od_4 (od_at tB_cL_law_16 7 rfl)
theorem dL_law_264 : decode cL_law 264 = .ok (.iadd, 1) := od_96 (od_at tB_cL_law_16 8 rfl)
theorem dL_law_265 : decode cL_law 265 = .ok (.iaload, 1) := od_46 (od_at tB_cL_law_16 9 rfl)
theorem dL_law_266 : decode cL_law 266 = .ok (.aload_n 0, 1) := od_42 (od_at tB_cL_law_16 10 rfl)
theorem dL_law_267 : decode cL_law 267 = .ok (.iload_n 3, 1) := od_29 (od_at tB_cL_law_16 11 rfl)
theorem dL_law_268 : decode cL_law 268 = .ok (.iconst 2, 1) := od_5 (od_at tB_cL_law_16 12 rfl)
theorem dL_law_269 : decode cL_law 269 = .ok (.iadd, 1) := od_96 (od_at tB_cL_law_16 13 rfl)
theorem dL_law_270 : decode cL_law 270 = .ok (.iaload, 1) := od_46 (od_at tB_cL_law_16 14 rfl)
theorem dL_law_271 : decode cL_law 271 = .ok (.aload_n 0, 1) := od_42 (od_at tB_cL_law_16 15 rfl)
theorem dL_law_272 : decode cL_law 272 = .ok (.iload_n 3, 1) := od_29 (od_at tB_cL_law_17 0 rfl)
theorem dL_law_273 : decode cL_law 273 = .ok (.iconst 3, 1) := od_6 (od_at tB_cL_law_17 1 rfl)
theorem dL_law_274 : decode cL_law 274 = .ok (.iadd, 1) := od_96 (od_at tB_cL_law_17 2 rfl)
theorem dL_law_275 : decode cL_law 275 = .ok (.iaload, 1) := od_46 (od_at tB_cL_law_17 3 rfl)
theorem dL_law_276 : decode cL_law 276 = .ok (.invokevirtual 23, 3) := od_182 (od_at tB_cL_law_17 4 rfl) (od_at tB_cL_law_17 5 rfl) (od_at tB_cL_law_17 6 rfl) rfl
theorem dL_law_279 : decode cL_law 279 = .ok (.pop, 1) := od_87 (od_at tB_cL_law_17 7 rfl)
theorem dL_law_280 : decode cL_law 280 = .ok (.aload_n 2, 1) := od_44 (od_at tB_cL_law_17 8 rfl)
theorem dL_law_281 : decode cL_law 281 = .ok (.aload_n 0, 1) := od_42 (od_at tB_cL_law_17 9 rfl)
theorem dL_law_282 : decode cL_law 282 = .ok (.iload_n 3, 1) := od_29 (od_at tB_cL_law_17 10 rfl)
theorem dL_law_283 : decode cL_law 283 = .ok (.iconst 1, 1) := od_4 (od_at tB_cL_law_17 11 rfl)
theorem dL_law_284 : decode cL_law 284 = .ok (.iadd, 1) := od_96 (od_at tB_cL_law_17 12 rfl)
theorem dL_law_285 : decode cL_law 285 = .ok (.iaload, 1) := od_46 (od_at tB_cL_law_17 13 rfl)
theorem dL_law_286 : decode cL_law 286 = .ok (.aload_n 0, 1) := od_42 (od_at tB_cL_law_17 14 rfl)
theorem dL_law_287 : decode cL_law 287 = .ok (.iload_n 3, 1) := od_29 (od_at tB_cL_law_17 15 rfl)
theorem dL_law_288 : decode cL_law 288 = .ok (.iconst 2, 1) := od_5 (od_at tB_cL_law_18 0 rfl)
theorem dL_law_289 : decode cL_law 289 = .ok (.iadd, 1) := od_96 (od_at tB_cL_law_18 1 rfl)
theorem dL_law_290 : decode cL_law 290 = .ok (.iaload, 1) := od_46 (od_at tB_cL_law_18 2 rfl)
theorem dL_law_291 : decode cL_law 291 = .ok (.aload_n 0, 1) := od_42 (od_at tB_cL_law_18 3 rfl)
theorem dL_law_292 : decode cL_law 292 = .ok (.iload_n 3, 1) := od_29 (od_at tB_cL_law_18 4 rfl)
theorem dL_law_293 : decode cL_law 293 = .ok (.iconst 3, 1) := od_6 (od_at tB_cL_law_18 5 rfl)
theorem dL_law_294 : decode cL_law 294 = .ok (.iadd, 1) := od_96 (od_at tB_cL_law_18 6 rfl)
theorem dL_law_295 : decode cL_law 295 = .ok (.iaload, 1) := od_46 (od_at tB_cL_law_18 7 rfl)
theorem dL_law_296 : decode cL_law 296 = .ok (.invokevirtual 27, 3) := od_182 (od_at tB_cL_law_18 8 rfl) (od_at tB_cL_law_18 9 rfl) (od_at tB_cL_law_18 10 rfl) rfl
theorem dL_law_299 : decode cL_law 299 = .ok (.pop, 1) := od_87 (od_at tB_cL_law_18 11 rfl)
theorem dL_law_300 : decode cL_law 300 = .ok (.goto 1116, 3) := od_167 (od_at tB_cL_law_18 12 rfl) (od_at tB_cL_law_18 13 rfl) (od_at tB_cL_law_18 14 rfl) (by decide +kernel)
theorem dL_law_303 : decode cL_law 303 = .ok (.aload_n 1, 1) := od_43 (od_at tB_cL_law_18 15 rfl)
theorem dL_law_304 : decode cL_law 304 = .ok (.aload_n 0, 1) := od_42 (od_at tB_cL_law_19 0 rfl)
theorem dL_law_305 : decode cL_law 305 = .ok (.iload_n 3, 1) := od_29 (od_at tB_cL_law_19 1 rfl)
theorem dL_law_306 : decode cL_law 306 = .ok (.iconst 1, 1) := od_4 (od_at tB_cL_law_19 2 rfl)
theorem dL_law_307 : decode cL_law 307 = .ok (.iadd, 1) := od_96 (od_at tB_cL_law_19 3 rfl)
theorem dL_law_308 : decode cL_law 308 = .ok (.iaload, 1) := od_46 (od_at tB_cL_law_19 4 rfl)
theorem dL_law_309 : decode cL_law 309 = .ok (.aload_n 0, 1) := od_42 (od_at tB_cL_law_19 5 rfl)
theorem dL_law_310 : decode cL_law 310 = .ok (.iload_n 3, 1) := od_29 (od_at tB_cL_law_19 6 rfl)
theorem dL_law_311 : decode cL_law 311 = .ok (.iconst 2, 1) := od_5 (od_at tB_cL_law_19 7 rfl)
theorem dL_law_312 : decode cL_law 312 = .ok (.iadd, 1) := od_96 (od_at tB_cL_law_19 8 rfl)
theorem dL_law_313 : decode cL_law 313 = .ok (.iaload, 1) := od_46 (od_at tB_cL_law_19 9 rfl)
theorem dL_law_314 : decode cL_law 314 = .ok (.invokevirtual 28, 3) := od_182 (od_at tB_cL_law_19 10 rfl) (od_at tB_cL_law_19 11 rfl) (od_at tB_cL_law_19 12 rfl) rfl
theorem dL_law_317 : decode cL_law 317 = .ok (.pop, 1) := od_87 (od_at tB_cL_law_19 13 rfl)
theorem dL_law_318 : decode cL_law 318 = .ok (.aload_n 2, 1) := od_44 (od_at tB_cL_law_19 14 rfl)
theorem dL_law_319 : decode cL_law 319 = .ok (.aload_n 0, 1) := od_42 (od_at tB_cL_law_19 15 rfl)
theorem dL_law_320 : decode cL_law 320 = .ok (.iload_n 3, 1) := od_29 (od_at tB_cL_law_20 0 rfl)
theorem dL_law_321 : decode cL_law 321 = .ok (.iconst 1, 1) := od_4 (od_at tB_cL_law_20 1 rfl)
theorem dL_law_322 : decode cL_law 322 = .ok (.iadd, 1) := od_96 (od_at tB_cL_law_20 2 rfl)
theorem dL_law_323 : decode cL_law 323 = .ok (.iaload, 1) := od_46 (od_at tB_cL_law_20 3 rfl)
theorem dL_law_324 : decode cL_law 324 = .ok (.aload_n 0, 1) := od_42 (od_at tB_cL_law_20 4 rfl)
theorem dL_law_325 : decode cL_law 325 = .ok (.iload_n 3, 1) := od_29 (od_at tB_cL_law_20 5 rfl)
theorem dL_law_326 : decode cL_law 326 = .ok (.iconst 2, 1) := od_5 (od_at tB_cL_law_20 6 rfl)
theorem dL_law_327 : decode cL_law 327 = .ok (.iadd, 1) := od_96 (od_at tB_cL_law_20 7 rfl)
theorem dL_law_328 : decode cL_law 328 = .ok (.iaload, 1) := od_46 (od_at tB_cL_law_20 8 rfl)
theorem dL_law_329 : decode cL_law 329 = .ok (.invokevirtual 32, 3) := od_182 (od_at tB_cL_law_20 9 rfl) (od_at tB_cL_law_20 10 rfl) (od_at tB_cL_law_20 11 rfl) rfl
theorem dL_law_332 : decode cL_law 332 = .ok (.pop, 1) := od_87 (od_at tB_cL_law_20 12 rfl)
theorem dL_law_333 : decode cL_law 333 = .ok (.goto 1083, 3) := od_167 (od_at tB_cL_law_20 13 rfl) (od_at tB_cL_law_20 14 rfl) (od_at tB_cL_law_20 15 rfl) (by decide +kernel)
theorem dL_law_336 : decode cL_law 336 = .ok (.aload_n 1, 1) := od_43 (od_at tB_cL_law_21 0 rfl)
theorem dL_law_337 : decode cL_law 337 = .ok (.aload_n 0, 1) := od_42 (od_at tB_cL_law_21 1 rfl)
theorem dL_law_338 : decode cL_law 338 = .ok (.iload_n 3, 1) := od_29 (od_at tB_cL_law_21 2 rfl)
theorem dL_law_339 : decode cL_law 339 = .ok (.iconst 1, 1) := od_4 (od_at tB_cL_law_21 3 rfl)
theorem dL_law_340 : decode cL_law 340 = .ok (.iadd, 1) := od_96 (od_at tB_cL_law_21 4 rfl)
theorem dL_law_341 : decode cL_law 341 = .ok (.iaload, 1) := od_46 (od_at tB_cL_law_21 5 rfl)
theorem dL_law_342 : decode cL_law 342 = .ok (.aload_n 0, 1) := od_42 (od_at tB_cL_law_21 6 rfl)
theorem dL_law_343 : decode cL_law 343 = .ok (.iload_n 3, 1) := od_29 (od_at tB_cL_law_21 7 rfl)
theorem dL_law_344 : decode cL_law 344 = .ok (.iconst 2, 1) := od_5 (od_at tB_cL_law_21 8 rfl)
theorem dL_law_345 : decode cL_law 345 = .ok (.iadd, 1) := od_96 (od_at tB_cL_law_21 9 rfl)
theorem dL_law_346 : decode cL_law 346 = .ok (.iaload, 1) := od_46 (od_at tB_cL_law_21 10 rfl)
theorem dL_law_347 : decode cL_law 347 = .ok (.aload_n 0, 1) := od_42 (od_at tB_cL_law_21 11 rfl)
theorem dL_law_348 : decode cL_law 348 = .ok (.iload_n 3, 1) := od_29 (od_at tB_cL_law_21 12 rfl)
theorem dL_law_349 : decode cL_law 349 = .ok (.iconst 3, 1) := od_6 (od_at tB_cL_law_21 13 rfl)
theorem dL_law_350 : decode cL_law 350 = .ok (.iadd, 1) := od_96 (od_at tB_cL_law_21 14 rfl)
theorem dL_law_351 : decode cL_law 351 = .ok (.iaload, 1) := od_46 (od_at tB_cL_law_21 15 rfl)
theorem dL_law_352 : decode cL_law 352 = .ok (.aload_n 0, 1) := od_42 (od_at tB_cL_law_22 0 rfl)
theorem dL_law_353 : decode cL_law 353 = .ok (.iload_n 3, 1) := od_29 (od_at tB_cL_law_22 1 rfl)
theorem dL_law_354 : decode cL_law 354 = .ok (.iconst 4, 1) := od_7 (od_at tB_cL_law_22 2 rfl)
theorem dL_law_355 : decode cL_law 355 = .ok (.iadd, 1) := od_96 (od_at tB_cL_law_22 3 rfl)
theorem dL_law_356 : decode cL_law 356 = .ok (.iaload, 1) := od_46 (od_at tB_cL_law_22 4 rfl)
theorem dL_law_357 : decode cL_law 357 = .ok (.invokevirtual 33, 3) := od_182 (od_at tB_cL_law_22 5 rfl) (od_at tB_cL_law_22 6 rfl) (od_at tB_cL_law_22 7 rfl) rfl
theorem dL_law_360 : decode cL_law 360 = .ok (.pop, 1) := od_87 (od_at tB_cL_law_22 8 rfl)
theorem dL_law_361 : decode cL_law 361 = .ok (.aload_n 2, 1) := od_44 (od_at tB_cL_law_22 9 rfl)
theorem dL_law_362 : decode cL_law 362 = .ok (.aload_n 0, 1) := od_42 (od_at tB_cL_law_22 10 rfl)
theorem dL_law_363 : decode cL_law 363 = .ok (.iload_n 3, 1) := od_29 (od_at tB_cL_law_22 11 rfl)
theorem dL_law_364 : decode cL_law 364 = .ok (.iconst 1, 1) := od_4 (od_at tB_cL_law_22 12 rfl)
theorem dL_law_365 : decode cL_law 365 = .ok (.iadd, 1) := od_96 (od_at tB_cL_law_22 13 rfl)
theorem dL_law_366 : decode cL_law 366 = .ok (.iaload, 1) := od_46 (od_at tB_cL_law_22 14 rfl)
theorem dL_law_367 : decode cL_law 367 = .ok (.aload_n 0, 1) := od_42 (od_at tB_cL_law_22 15 rfl)
theorem dL_law_368 : decode cL_law 368 = .ok (.iload_n 3, 1) := od_29 (od_at tB_cL_law_23 0 rfl)
theorem dL_law_369 : decode cL_law 369 = .ok (.iconst 2, 1) := od_5 (od_at tB_cL_law_23 1 rfl)
theorem dL_law_370 : decode cL_law 370 = .ok (.iadd, 1) := od_96 (od_at tB_cL_law_23 2 rfl)
theorem dL_law_371 : decode cL_law 371 = .ok (.iaload, 1) := od_46 (od_at tB_cL_law_23 3 rfl)
theorem dL_law_372 : decode cL_law 372 = .ok (.aload_n 0, 1) := od_42 (od_at tB_cL_law_23 4 rfl)
theorem dL_law_373 : decode cL_law 373 = .ok (.iload_n 3, 1) := od_29 (od_at tB_cL_law_23 5 rfl)
theorem dL_law_374 : decode cL_law 374 = .ok (.iconst 3, 1) := od_6 (od_at tB_cL_law_23 6 rfl)
theorem dL_law_375 : decode cL_law 375 = .ok (.iadd, 1) := od_96 (od_at tB_cL_law_23 7 rfl)
theorem dL_law_376 : decode cL_law 376 = .ok (.iaload, 1) := od_46 (od_at tB_cL_law_23 8 rfl)
theorem dL_law_377 : decode cL_law 377 = .ok (.aload_n 0, 1) := od_42 (od_at tB_cL_law_23 9 rfl)
theorem dL_law_378 : decode cL_law 378 = .ok (.iload_n 3, 1) := od_29 (od_at tB_cL_law_23 10 rfl)
theorem dL_law_379 : decode cL_law 379 = .ok (.iconst 4, 1) := od_7 (od_at tB_cL_law_23 11 rfl)
theorem dL_law_380 : decode cL_law 380 = .ok (.iadd, 1) := od_96 (od_at tB_cL_law_23 12 rfl)
theorem dL_law_381 : decode cL_law 381 = .ok (.iaload, 1) := od_46 (od_at tB_cL_law_23 13 rfl)
theorem dL_law_382 : decode cL_law 382 = .ok (.invokevirtual 36, 3) := od_182 (od_at tB_cL_law_23 14 rfl) (od_at tB_cL_law_23 15 rfl) (od_at tB_cL_law_23 16 rfl) rfl
theorem dL_law_385 : decode cL_law 385 = .ok (.pop, 1) := od_87 (od_at tB_cL_law_24 1 rfl)
theorem dL_law_386 : decode cL_law 386 = .ok (.goto 1030, 3) := od_167 (od_at tB_cL_law_24 2 rfl) (od_at tB_cL_law_24 3 rfl) (od_at tB_cL_law_24 4 rfl) (by decide +kernel)
theorem dL_law_389 : decode cL_law 389 = .ok (.aload_n 1, 1) := od_43 (od_at tB_cL_law_24 5 rfl)
theorem dL_law_390 : decode cL_law 390 = .ok (.aload_n 0, 1) := od_42 (od_at tB_cL_law_24 6 rfl)
theorem dL_law_391 : decode cL_law 391 = .ok (.iload_n 3, 1) := od_29 (od_at tB_cL_law_24 7 rfl)
theorem dL_law_392 : decode cL_law 392 = .ok (.iconst 1, 1) := od_4 (od_at tB_cL_law_24 8 rfl)
theorem dL_law_393 : decode cL_law 393 = .ok (.iadd, 1) := od_96 (od_at tB_cL_law_24 9 rfl)
theorem dL_law_394 : decode cL_law 394 = .ok (.iaload, 1) := od_46 (od_at tB_cL_law_24 10 rfl)
theorem dL_law_395 : decode cL_law 395 = .ok (.aload_n 0, 1) := od_42 (od_at tB_cL_law_24 11 rfl)
theorem dL_law_396 : decode cL_law 396 = .ok (.iload_n 3, 1) := od_29 (od_at tB_cL_law_24 12 rfl)
theorem dL_law_397 : decode cL_law 397 = .ok (.iconst 2, 1) := od_5 (od_at tB_cL_law_24 13 rfl)
theorem dL_law_398 : decode cL_law 398 = .ok (.iadd, 1) := od_96 (od_at tB_cL_law_24 14 rfl)
theorem dL_law_399 : decode cL_law 399 = .ok (.iaload, 1) := od_46 (od_at tB_cL_law_24 15 rfl)
theorem dL_law_400 : decode cL_law 400 = .ok (.aload_n 0, 1) := od_42 (od_at tB_cL_law_25 0 rfl)
theorem dL_law_401 : decode cL_law 401 = .ok (.iload_n 3, 1) := od_29 (od_at tB_cL_law_25 1 rfl)
theorem dL_law_402 : decode cL_law 402 = .ok (.iconst 3, 1) := od_6 (od_at tB_cL_law_25 2 rfl)
theorem dL_law_403 : decode cL_law 403 = .ok (.iadd, 1) := od_96 (od_at tB_cL_law_25 3 rfl)
theorem dL_law_404 : decode cL_law 404 = .ok (.iaload, 1) := od_46 (od_at tB_cL_law_25 4 rfl)
theorem dL_law_405 : decode cL_law 405 = .ok (.invokevirtual 37, 3) := od_182 (od_at tB_cL_law_25 5 rfl) (od_at tB_cL_law_25 6 rfl) (od_at tB_cL_law_25 7 rfl) rfl
theorem dL_law_408 : decode cL_law 408 = .ok (.pop, 1) := od_87 (od_at tB_cL_law_25 8 rfl)
theorem dL_law_409 : decode cL_law 409 = .ok (.aload_n 2, 1) := od_44 (od_at tB_cL_law_25 9 rfl)
theorem dL_law_410 : decode cL_law 410 = .ok (.aload_n 0, 1) := od_42 (od_at tB_cL_law_25 10 rfl)
theorem dL_law_411 : decode cL_law 411 = .ok (.iload_n 3, 1) := od_29 (od_at tB_cL_law_25 11 rfl)
theorem dL_law_412 : decode cL_law 412 = .ok (.iconst 1, 1) := od_4 (od_at tB_cL_law_25 12 rfl)
theorem dL_law_413 : decode cL_law 413 = .ok (.iadd, 1) := od_96 (od_at tB_cL_law_25 13 rfl)
theorem dL_law_414 : decode cL_law 414 = .ok (.iaload, 1) := od_46 (od_at tB_cL_law_25 14 rfl)
theorem dL_law_415 : decode cL_law 415 = .ok (.aload_n 0, 1) := od_42 (od_at tB_cL_law_25 15 rfl)
theorem dL_law_416 : decode cL_law 416 = .ok (.iload_n 3, 1) := od_29 (od_at tB_cL_law_26 0 rfl)
theorem dL_law_417 : decode cL_law 417 = .ok (.iconst 2, 1) := od_5 (od_at tB_cL_law_26 1 rfl)
theorem dL_law_418 : decode cL_law 418 = .ok (.iadd, 1) := od_96 (od_at tB_cL_law_26 2 rfl)
theorem dL_law_419 : decode cL_law 419 = .ok (.iaload, 1) := od_46 (od_at tB_cL_law_26 3 rfl)
theorem dL_law_420 : decode cL_law 420 = .ok (.aload_n 0, 1) := od_42 (od_at tB_cL_law_26 4 rfl)
theorem dL_law_421 : decode cL_law 421 = .ok (.iload_n 3, 1) := od_29 (od_at tB_cL_law_26 5 rfl)
theorem dL_law_422 : decode cL_law 422 = .ok (.iconst 3, 1) := od_6 (od_at tB_cL_law_26 6 rfl)
theorem dL_law_423 : decode cL_law 423 = .ok (.iadd, 1) := od_96 (od_at tB_cL_law_26 7 rfl)
theorem dL_law_424 : decode cL_law 424 = .ok (.iaload, 1) := od_46 (od_at tB_cL_law_26 8 rfl)
theorem dL_law_425 : decode cL_law 425 = .ok (.invokevirtual 40, 3) := od_182 (od_at tB_cL_law_26 9 rfl) (od_at tB_cL_law_26 10 rfl) (od_at tB_cL_law_26 11 rfl) rfl
theorem dL_law_428 : decode cL_law 428 = .ok (.pop, 1) := od_87 (od_at tB_cL_law_26 12 rfl)
theorem dL_law_429 : decode cL_law 429 = .ok (.goto 987, 3) := od_167 (od_at tB_cL_law_26 13 rfl) (od_at tB_cL_law_26 14 rfl) (od_at tB_cL_law_26 15 rfl) (by decide +kernel)
theorem dL_law_432 : decode cL_law 432 = .ok (.aload_n 1, 1) := od_43 (od_at tB_cL_law_27 0 rfl)
theorem dL_law_433 : decode cL_law 433 = .ok (.aload_n 0, 1) := od_42 (od_at tB_cL_law_27 1 rfl)
theorem dL_law_434 : decode cL_law 434 = .ok (.iload_n 3, 1) := od_29 (od_at tB_cL_law_27 2 rfl)
theorem dL_law_435 : decode cL_law 435 = .ok (.iconst 1, 1) := od_4 (od_at tB_cL_law_27 3 rfl)
theorem dL_law_436 : decode cL_law 436 = .ok (.iadd, 1) := od_96 (od_at tB_cL_law_27 4 rfl)
theorem dL_law_437 : decode cL_law 437 = .ok (.iaload, 1) := od_46 (od_at tB_cL_law_27 5 rfl)
theorem dL_law_438 : decode cL_law 438 = .ok (.aload_n 0, 1) := od_42 (od_at tB_cL_law_27 6 rfl)
theorem dL_law_439 : decode cL_law 439 = .ok (.iload_n 3, 1) := od_29 (od_at tB_cL_law_27 7 rfl)
theorem dL_law_440 : decode cL_law 440 = .ok (.iconst 2, 1) := od_5 (od_at tB_cL_law_27 8 rfl)
theorem dL_law_441 : decode cL_law 441 = .ok (.iadd, 1) := od_96 (od_at tB_cL_law_27 9 rfl)
theorem dL_law_442 : decode cL_law 442 = .ok (.iaload, 1) := od_46 (od_at tB_cL_law_27 10 rfl)
theorem dL_law_443 : decode cL_law 443 = .ok (.aload_n 0, 1) := od_42 (od_at tB_cL_law_27 11 rfl)
theorem dL_law_444 : decode cL_law 444 = .ok (.iload_n 3, 1) := od_29 (od_at tB_cL_law_27 12 rfl)
theorem dL_law_445 : decode cL_law 445 = .ok (.iconst 3, 1) := od_6 (od_at tB_cL_law_27 13 rfl)
theorem dL_law_446 : decode cL_law 446 = .ok (.iadd, 1) := od_96 (od_at tB_cL_law_27 14 rfl)
theorem dL_law_447 : decode cL_law 447 = .ok (.iaload, 1) := od_46 (od_at tB_cL_law_27 15 rfl)
theorem dL_law_448 : decode cL_law 448 = .ok (.invokevirtual 41, 3) := od_182 (od_at tB_cL_law_28 0 rfl) (od_at tB_cL_law_28 1 rfl) (od_at tB_cL_law_28 2 rfl) rfl
theorem dL_law_451 : decode cL_law 451 = .ok (.pop2, 1) := od_88 (od_at tB_cL_law_28 3 rfl)
theorem dL_law_452 : decode cL_law 452 = .ok (.aload_n 2, 1) := od_44 (od_at tB_cL_law_28 4 rfl)
theorem dL_law_453 : decode cL_law 453 = .ok (.aload_n 0, 1) := od_42 (od_at tB_cL_law_28 5 rfl)
theorem dL_law_454 : decode cL_law 454 = .ok (.iload_n 3, 1) := od_29 (od_at tB_cL_law_28 6 rfl)
theorem dL_law_455 : decode cL_law 455 = .ok (.iconst 1, 1) := od_4 (od_at tB_cL_law_28 7 rfl)
theorem dL_law_456 : decode cL_law 456 = .ok (.iadd, 1) := od_96 (od_at tB_cL_law_28 8 rfl)
theorem dL_law_457 : decode cL_law 457 = .ok (.iaload, 1) := od_46 (od_at tB_cL_law_28 9 rfl)
theorem dL_law_458 : decode cL_law 458 = .ok (.aload_n 0, 1) := od_42 (od_at tB_cL_law_28 10 rfl)
theorem dL_law_459 : decode cL_law 459 = .ok (.iload_n 3, 1) := od_29 (od_at tB_cL_law_28 11 rfl)
theorem dL_law_460 : decode cL_law 460 = .ok (.iconst 2, 1) := od_5 (od_at tB_cL_law_28 12 rfl)
theorem dL_law_461 : decode cL_law 461 = .ok (.iadd, 1) := od_96 (od_at tB_cL_law_28 13 rfl)
theorem dL_law_462 : decode cL_law 462 = .ok (.iaload, 1) := od_46 (od_at tB_cL_law_28 14 rfl)
theorem dL_law_463 : decode cL_law 463 = .ok (.aload_n 0, 1) := od_42 (od_at tB_cL_law_28 15 rfl)
theorem dL_law_464 : decode cL_law 464 = .ok (.iload_n 3, 1) := od_29 (od_at tB_cL_law_29 0 rfl)
theorem dL_law_465 : decode cL_law 465 = .ok (.iconst 3, 1) := od_6 (od_at tB_cL_law_29 1 rfl)
theorem dL_law_466 : decode cL_law 466 = .ok (.iadd, 1) := od_96 (od_at tB_cL_law_29 2 rfl)
theorem dL_law_467 : decode cL_law 467 = .ok (.iaload, 1) := od_46 (od_at tB_cL_law_29 3 rfl)
theorem dL_law_468 : decode cL_law 468 = .ok (.invokevirtual 45, 3) := od_182 (od_at tB_cL_law_29 4 rfl) (od_at tB_cL_law_29 5 rfl) (od_at tB_cL_law_29 6 rfl) rfl
theorem dL_law_471 : decode cL_law 471 = .ok (.pop2, 1) := od_88 (od_at tB_cL_law_29 7 rfl)
theorem dL_law_472 : decode cL_law 472 = .ok (.goto 944, 3) := od_167 (od_at tB_cL_law_29 8 rfl) (od_at tB_cL_law_29 9 rfl) (od_at tB_cL_law_29 10 rfl) (by decide +kernel)
theorem dL_law_475 : decode cL_law 475 = .ok (.aload_n 1, 1) := od_43 (od_at tB_cL_law_29 11 rfl)
theorem dL_law_476 : decode cL_law 476 = .ok (.aload_n 0, 1) := od_42 (od_at tB_cL_law_29 12 rfl)
theorem dL_law_477 : decode cL_law 477 = .ok (.iload_n 3, 1) := od_29 (od_at tB_cL_law_29 13 rfl)
theorem dL_law_478 : decode cL_law 478 = .ok (.iconst 1, 1) := od_4 (od_at tB_cL_law_29 14 rfl)
theorem dL_law_479 : decode cL_law 479 = .ok (.iadd, 1) := od_96 (od_at tB_cL_law_29 15 rfl)
theorem dL_law_480 : decode cL_law 480 = .ok (.iaload, 1) := od_46 (od_at tB_cL_law_30 0 rfl)
theorem dL_law_481 : decode cL_law 481 = .ok (.invokevirtual 46, 3) := od_182 (od_at tB_cL_law_30 1 rfl) (od_at tB_cL_law_30 2 rfl) (od_at tB_cL_law_30 3 rfl) rfl
theorem dL_law_484 : decode cL_law 484 = .ok (.pop, 1) := od_87 (od_at tB_cL_law_30 4 rfl)
theorem dL_law_485 : decode cL_law 485 = .ok (.aload_n 2, 1) := od_44 (od_at tB_cL_law_30 5 rfl)
theorem dL_law_486 : decode cL_law 486 = .ok (.aload_n 0, 1) := od_42 (od_at tB_cL_law_30 6 rfl)
theorem dL_law_487 : decode cL_law 487 = .ok (.iload_n 3, 1) := od_29 (od_at tB_cL_law_30 7 rfl)
theorem dL_law_488 : decode cL_law 488 = .ok (.iconst 1, 1) := od_4 (od_at tB_cL_law_30 8 rfl)
theorem dL_law_489 : decode cL_law 489 = .ok (.iadd, 1) := od_96 (od_at tB_cL_law_30 9 rfl)
theorem dL_law_490 : decode cL_law 490 = .ok (.iaload, 1) := od_46 (od_at tB_cL_law_30 10 rfl)
theorem dL_law_491 : decode cL_law 491 = .ok (.invokevirtual 49, 3) := od_182 (od_at tB_cL_law_30 11 rfl) (od_at tB_cL_law_30 12 rfl) (od_at tB_cL_law_30 13 rfl) rfl
theorem dL_law_494 : decode cL_law 494 = .ok (.pop, 1) := od_87 (od_at tB_cL_law_30 14 rfl)
theorem dL_law_495 : decode cL_law 495 = .ok (.goto 921, 3) := od_167 (od_at tB_cL_law_30 15 rfl) (od_at tB_cL_law_30 16 rfl) (od_at tB_cL_law_30 17 rfl) (by decide +kernel)
theorem dL_law_498 : decode cL_law 498 = .ok (.aload_n 1, 1) := od_43 (od_at tB_cL_law_31 2 rfl)
theorem dL_law_499 : decode cL_law 499 = .ok (.aload_n 0, 1) := od_42 (od_at tB_cL_law_31 3 rfl)
theorem dL_law_500 : decode cL_law 500 = .ok (.iload_n 3, 1) := od_29 (od_at tB_cL_law_31 4 rfl)
theorem dL_law_501 : decode cL_law 501 = .ok (.iconst 1, 1) := od_4 (od_at tB_cL_law_31 5 rfl)
theorem dL_law_502 : decode cL_law 502 = .ok (.iadd, 1) := od_96 (od_at tB_cL_law_31 6 rfl)
theorem dL_law_503 : decode cL_law 503 = .ok (.iaload, 1) := od_46 (od_at tB_cL_law_31 7 rfl)
theorem dL_law_504 : decode cL_law 504 = .ok (.invokevirtual 50, 3) := od_182 (od_at tB_cL_law_31 8 rfl) (od_at tB_cL_law_31 9 rfl) (od_at tB_cL_law_31 10 rfl) rfl
theorem dL_law_507 : decode cL_law 507 = .ok (.pop, 1) := od_87 (od_at tB_cL_law_31 11 rfl)
theorem dL_law_508 : decode cL_law 508 = .ok (.aload_n 2, 1) := od_44 (od_at tB_cL_law_31 12 rfl)
theorem dL_law_509 : decode cL_law 509 = .ok (.aload_n 0, 1) := od_42 (od_at tB_cL_law_31 13 rfl)
theorem dL_law_510 : decode cL_law 510 = .ok (.iload_n 3, 1) := od_29 (od_at tB_cL_law_31 14 rfl)
theorem dL_law_511 : decode cL_law 511 = .ok (.iconst 1, 1) := od_4 (od_at tB_cL_law_31 15 rfl)
theorem dL_law_512 : decode cL_law 512 = .ok (.iadd, 1) := od_96 (od_at tB_cL_law_32 0 rfl)
theorem dL_law_513 : decode cL_law 513 = .ok (.iaload, 1) := od_46 (od_at tB_cL_law_32 1 rfl)
theorem dL_law_514 : decode cL_law 514 = .ok (.invokevirtual 53, 3) := od_182 (od_at tB_cL_law_32 2 rfl) (od_at tB_cL_law_32 3 rfl) (od_at tB_cL_law_32 4 rfl) rfl
theorem dL_law_517 : decode cL_law 517 = .ok (.pop, 1) := od_87 (od_at tB_cL_law_32 5 rfl)
theorem dL_law_518 : decode cL_law 518 = .ok (.goto 898, 3) := od_167 (od_at tB_cL_law_32 6 rfl) (od_at tB_cL_law_32 7 rfl) (od_at tB_cL_law_32 8 rfl) (by decide +kernel)
theorem dL_law_521 : decode cL_law 521 = .ok (.aload_n 1, 1) := od_43 (od_at tB_cL_law_32 9 rfl)
theorem dL_law_522 : decode cL_law 522 = .ok (.aload_n 0, 1) := od_42 (od_at tB_cL_law_32 10 rfl)
theorem dL_law_523 : decode cL_law 523 = .ok (.iload_n 3, 1) := od_29 (od_at tB_cL_law_32 11 rfl)
theorem dL_law_524 : decode cL_law 524 = .ok (.iconst 1, 1) := od_4 (od_at tB_cL_law_32 12 rfl)
theorem dL_law_525 : decode cL_law 525 = .ok (.iadd, 1) := od_96 (od_at tB_cL_law_32 13 rfl)
theorem dL_law_526 : decode cL_law 526 = .ok (.iaload, 1) := od_46 (od_at tB_cL_law_32 14 rfl)
theorem dL_law_527 : decode cL_law 527 = .ok (.aload_n 0, 1) := od_42 (od_at tB_cL_law_32 15 rfl)
theorem dL_law_528 : decode cL_law 528 = .ok (.iload_n 3, 1) := od_29 (od_at tB_cL_law_33 0 rfl)
theorem dL_law_529 : decode cL_law 529 = .ok (.iconst 2, 1) := od_5 (od_at tB_cL_law_33 1 rfl)
theorem dL_law_530 : decode cL_law 530 = .ok (.iadd, 1) := od_96 (od_at tB_cL_law_33 2 rfl)
theorem dL_law_531 : decode cL_law 531 = .ok (.iaload, 1) := od_46 (od_at tB_cL_law_33 3 rfl)
theorem dL_law_532 : decode cL_law 532 = .ok (.aload_n 0, 1) := od_42 (od_at tB_cL_law_33 4 rfl)
theorem dL_law_533 : decode cL_law 533 = .ok (.iload_n 3, 1) := od_29 (od_at tB_cL_law_33 5 rfl)
theorem dL_law_534 : decode cL_law 534 = .ok (.iconst 3, 1) := od_6 (od_at tB_cL_law_33 6 rfl)
theorem dL_law_535 : decode cL_law 535 = .ok (.iadd, 1) := od_96 (od_at tB_cL_law_33 7 rfl)
theorem dL_law_536 : decode cL_law 536 = .ok (.iaload, 1) := od_46 (od_at tB_cL_law_33 8 rfl)
theorem dL_law_537 : decode cL_law 537 = .ok (.aload_n 0, 1) := od_42 (od_at tB_cL_law_33 9 rfl)
theorem dL_law_538 : decode cL_law 538 = .ok (.iload_n 3, 1) := od_29 (od_at tB_cL_law_33 10 rfl)
theorem dL_law_539 : decode cL_law 539 = .ok (.iconst 4, 1) := od_7 (od_at tB_cL_law_33 11 rfl)
theorem dL_law_540 : decode cL_law 540 = .ok (.iadd, 1) := od_96 (od_at tB_cL_law_33 12 rfl)
theorem dL_law_541 : decode cL_law 541 = .ok (.iaload, 1) := od_46 (od_at tB_cL_law_33 13 rfl)
theorem dL_law_542 : decode cL_law 542 = .ok (.invokevirtual 54, 3) := od_182 (od_at tB_cL_law_33 14 rfl) (od_at tB_cL_law_33 15 rfl) (od_at tB_cL_law_33 16 rfl) rfl
theorem dL_law_545 : decode cL_law 545 = .ok (.pop, 1) := od_87 (od_at tB_cL_law_34 1 rfl)
theorem dL_law_546 : decode cL_law 546 = .ok (.aload_n 2, 1) := od_44 (od_at tB_cL_law_34 2 rfl)
theorem dL_law_547 : decode cL_law 547 = .ok (.aload_n 0, 1) := od_42 (od_at tB_cL_law_34 3 rfl)
theorem dL_law_548 : decode cL_law 548 = .ok (.iload_n 3, 1) := od_29 (od_at tB_cL_law_34 4 rfl)
theorem dL_law_549 : decode cL_law 549 = .ok (.iconst 1, 1) := od_4 (od_at tB_cL_law_34 5 rfl)
theorem dL_law_550 : decode cL_law 550 = .ok (.iadd, 1) := od_96 (od_at tB_cL_law_34 6 rfl)
theorem dL_law_551 : decode cL_law 551 = .ok (.iaload, 1) := od_46 (od_at tB_cL_law_34 7 rfl)
theorem dL_law_552 : decode cL_law 552 = .ok (.aload_n 0, 1) := od_42 (od_at tB_cL_law_34 8 rfl)
theorem dL_law_553 : decode cL_law 553 = .ok (.iload_n 3, 1) := od_29 (od_at tB_cL_law_34 9 rfl)
theorem dL_law_554 : decode cL_law 554 = .ok (.iconst 2, 1) := od_5 (od_at tB_cL_law_34 10 rfl)
theorem dL_law_555 : decode cL_law 555 = .ok (.iadd, 1) := od_96 (od_at tB_cL_law_34 11 rfl)
theorem dL_law_556 : decode cL_law 556 = .ok (.iaload, 1) := od_46 (od_at tB_cL_law_34 12 rfl)
theorem dL_law_557 : decode cL_law 557 = .ok (.aload_n 0, 1) := od_42 (od_at tB_cL_law_34 13 rfl)
theorem dL_law_558 : decode cL_law 558 = .ok (.iload_n 3, 1) := od_29 (od_at tB_cL_law_34 14 rfl)
theorem dL_law_559 : decode cL_law 559 = .ok (.iconst 3, 1) := od_6 (od_at tB_cL_law_34 15 rfl)
theorem dL_law_560 : decode cL_law 560 = .ok (.iadd, 1) := od_96 (od_at tB_cL_law_35 0 rfl)
theorem dL_law_561 : decode cL_law 561 = .ok (.iaload, 1) := od_46 (od_at tB_cL_law_35 1 rfl)
theorem dL_law_562 : decode cL_law 562 = .ok (.aload_n 0, 1) := od_42 (od_at tB_cL_law_35 2 rfl)
theorem dL_law_563 : decode cL_law 563 = .ok (.iload_n 3, 1) := od_29 (od_at tB_cL_law_35 3 rfl)
theorem dL_law_564 : decode cL_law 564 = .ok (.iconst 4, 1) := od_7 (od_at tB_cL_law_35 4 rfl)
theorem dL_law_565 : decode cL_law 565 = .ok (.iadd, 1) := od_96 (od_at tB_cL_law_35 5 rfl)
theorem dL_law_566 : decode cL_law 566 = .ok (.iaload, 1) := od_46 (od_at tB_cL_law_35 6 rfl)
theorem dL_law_567 : decode cL_law 567 = .ok (.invokevirtual 57, 3) := od_182 (od_at tB_cL_law_35 7 rfl) (od_at tB_cL_law_35 8 rfl) (od_at tB_cL_law_35 9 rfl) rfl
theorem dL_law_570 : decode cL_law 570 = .ok (.pop, 1) := od_87 (od_at tB_cL_law_35 10 rfl)
theorem dL_law_571 : decode cL_law 571 = .ok (.goto 845, 3) := od_167 (od_at tB_cL_law_35 11 rfl) (od_at tB_cL_law_35 12 rfl) (od_at tB_cL_law_35 13 rfl) (by decide +kernel)
theorem dL_law_574 : decode cL_law 574 = .ok (.aload_n 1, 1) := od_43 (od_at tB_cL_law_35 14 rfl)
theorem dL_law_575 : decode cL_law 575 = .ok (.aload_n 0, 1) := od_42 (od_at tB_cL_law_35 15 rfl)
theorem dL_law_576 : decode cL_law 576 = .ok (.iload_n 3, 1) := od_29 (od_at tB_cL_law_36 0 rfl)
theorem dL_law_577 : decode cL_law 577 = .ok (.iconst 1, 1) := od_4 (od_at tB_cL_law_36 1 rfl)
theorem dL_law_578 : decode cL_law 578 = .ok (.iadd, 1) := od_96 (od_at tB_cL_law_36 2 rfl)
theorem dL_law_579 : decode cL_law 579 = .ok (.iaload, 1) := od_46 (od_at tB_cL_law_36 3 rfl)
theorem dL_law_580 : decode cL_law 580 = .ok (.aload_n 0, 1) := od_42 (od_at tB_cL_law_36 4 rfl)
theorem dL_law_581 : decode cL_law 581 = .ok (.iload_n 3, 1) := od_29 (od_at tB_cL_law_36 5 rfl)
theorem dL_law_582 : decode cL_law 582 = .ok (.iconst 2, 1) := od_5 (od_at tB_cL_law_36 6 rfl)
theorem dL_law_583 : decode cL_law 583 = .ok (.iadd, 1) := od_96 (od_at tB_cL_law_36 7 rfl)
theorem dL_law_584 : decode cL_law 584 = .ok (.iaload, 1) := od_46 (od_at tB_cL_law_36 8 rfl)
theorem dL_law_585 : decode cL_law 585 = .ok (.invokevirtual 58, 3) := od_182 (od_at tB_cL_law_36 9 rfl) (od_at tB_cL_law_36 10 rfl) (od_at tB_cL_law_36 11 rfl) rfl
theorem dL_law_588 : decode cL_law 588 = .ok (.pop, 1) := od_87 (od_at tB_cL_law_36 12 rfl)
theorem dL_law_589 : decode cL_law 589 = .ok (.aload_n 2, 1) := od_44 (od_at tB_cL_law_36 13 rfl)
theorem dL_law_590 : decode cL_law 590 = .ok (.aload_n 0, 1) := od_42 (od_at tB_cL_law_36 14 rfl)
theorem dL_law_591 : decode cL_law 591 = .ok (.iload_n 3, 1) := od_29 (od_at tB_cL_law_36 15 rfl)
theorem dL_law_592 : decode cL_law 592 = .ok (.iconst 1, 1) := od_4 (od_at tB_cL_law_37 0 rfl)
theorem dL_law_593 : decode cL_law 593 = .ok (.iadd, 1) := od_96 (od_at tB_cL_law_37 1 rfl)
theorem dL_law_594 : decode cL_law 594 = .ok (.iaload, 1) := od_46 (od_at tB_cL_law_37 2 rfl)
theorem dL_law_595 : decode cL_law 595 = .ok (.aload_n 0, 1) := od_42 (od_at tB_cL_law_37 3 rfl)
theorem dL_law_596 : decode cL_law 596 = .ok (.iload_n 3, 1) := od_29 (od_at tB_cL_law_37 4 rfl)
theorem dL_law_597 : decode cL_law 597 = .ok (.iconst 2, 1) := od_5 (od_at tB_cL_law_37 5 rfl)
theorem dL_law_598 : decode cL_law 598 = .ok (.iadd, 1) := od_96 (od_at tB_cL_law_37 6 rfl)
theorem dL_law_599 : decode cL_law 599 = .ok (.iaload, 1) := od_46 (od_at tB_cL_law_37 7 rfl)
theorem dL_law_600 : decode cL_law 600 = .ok (.invokevirtual 61, 3) := od_182 (od_at tB_cL_law_37 8 rfl) (od_at tB_cL_law_37 9 rfl) (od_at tB_cL_law_37 10 rfl) rfl
theorem dL_law_603 : decode cL_law 603 = .ok (.pop, 1) := od_87 (od_at tB_cL_law_37 11 rfl)
theorem dL_law_604 : decode cL_law 604 = .ok (.goto 812, 3) := od_167 (od_at tB_cL_law_37 12 rfl) (od_at tB_cL_law_37 13 rfl) (od_at tB_cL_law_37 14 rfl) (by decide +kernel)
theorem dL_law_607 : decode cL_law 607 = .ok (.aload_n 1, 1) := od_43 (od_at tB_cL_law_37 15 rfl)
theorem dL_law_608 : decode cL_law 608 = .ok (.aload_n 0, 1) := od_42 (od_at tB_cL_law_38 0 rfl)
theorem dL_law_609 : decode cL_law 609 = .ok (.iload_n 3, 1) := od_29 (od_at tB_cL_law_38 1 rfl)
theorem dL_law_610 : decode cL_law 610 = .ok (.iconst 1, 1) := od_4 (od_at tB_cL_law_38 2 rfl)
theorem dL_law_611 : decode cL_law 611 = .ok (.iadd, 1) := od_96 (od_at tB_cL_law_38 3 rfl)
theorem dL_law_612 : decode cL_law 612 = .ok (.iaload, 1) := od_46 (od_at tB_cL_law_38 4 rfl)
theorem dL_law_613 : decode cL_law 613 = .ok (.aload_n 0, 1) := od_42 (od_at tB_cL_law_38 5 rfl)
theorem dL_law_614 : decode cL_law 614 = .ok (.iload_n 3, 1) := od_29 (od_at tB_cL_law_38 6 rfl)
theorem dL_law_615 : decode cL_law 615 = .ok (.iconst 2, 1) := od_5 (od_at tB_cL_law_38 7 rfl)
theorem dL_law_616 : decode cL_law 616 = .ok (.iadd, 1) := od_96 (od_at tB_cL_law_38 8 rfl)
theorem dL_law_617 : decode cL_law 617 = .ok (.iaload, 1) := od_46 (od_at tB_cL_law_38 9 rfl)
theorem dL_law_618 : decode cL_law 618 = .ok (.aload_n 0, 1) := od_42 (od_at tB_cL_law_38 10 rfl)
theorem dL_law_619 : decode cL_law 619 = .ok (.iload_n 3, 1) := od_29 (od_at tB_cL_law_38 11 rfl)
theorem dL_law_620 : decode cL_law 620 = .ok (.iconst 3, 1) := od_6 (od_at tB_cL_law_38 12 rfl)
theorem dL_law_621 : decode cL_law 621 = .ok (.iadd, 1) := od_96 (od_at tB_cL_law_38 13 rfl)
theorem dL_law_622 : decode cL_law 622 = .ok (.iaload, 1) := od_46 (od_at tB_cL_law_38 14 rfl)
theorem dL_law_623 : decode cL_law 623 = .ok (.invokevirtual 62, 3) := od_182 (od_at tB_cL_law_38 15 rfl) (od_at tB_cL_law_38 16 rfl) (od_at tB_cL_law_38 17 rfl) rfl
theorem dL_law_626 : decode cL_law 626 = .ok (.pop, 1) := od_87 (od_at tB_cL_law_39 2 rfl)
theorem dL_law_627 : decode cL_law 627 = .ok (.aload_n 2, 1) := od_44 (od_at tB_cL_law_39 3 rfl)
theorem dL_law_628 : decode cL_law 628 = .ok (.aload_n 0, 1) := od_42 (od_at tB_cL_law_39 4 rfl)
theorem dL_law_629 : decode cL_law 629 = .ok (.iload_n 3, 1) := od_29 (od_at tB_cL_law_39 5 rfl)
theorem dL_law_630 : decode cL_law 630 = .ok (.iconst 1, 1) := od_4 (od_at tB_cL_law_39 6 rfl)
theorem dL_law_631 : decode cL_law 631 = .ok (.iadd, 1) := od_96 (od_at tB_cL_law_39 7 rfl)
theorem dL_law_632 : decode cL_law 632 = .ok (.iaload, 1) := od_46 (od_at tB_cL_law_39 8 rfl)
theorem dL_law_633 : decode cL_law 633 = .ok (.aload_n 0, 1) := od_42 (od_at tB_cL_law_39 9 rfl)
theorem dL_law_634 : decode cL_law 634 = .ok (.iload_n 3, 1) := od_29 (od_at tB_cL_law_39 10 rfl)
theorem dL_law_635 : decode cL_law 635 = .ok (.iconst 2, 1) := od_5 (od_at tB_cL_law_39 11 rfl)
theorem dL_law_636 : decode cL_law 636 = .ok (.iadd, 1) := od_96 (od_at tB_cL_law_39 12 rfl)
theorem dL_law_637 : decode cL_law 637 = .ok (.iaload, 1) := od_46 (od_at tB_cL_law_39 13 rfl)
theorem dL_law_638 : decode cL_law 638 = .ok (.aload_n 0, 1) := od_42 (od_at tB_cL_law_39 14 rfl)
theorem dL_law_639 : decode cL_law 639 = .ok (.iload_n 3, 1) := od_29 (od_at tB_cL_law_39 15 rfl)
theorem dL_law_640 : decode cL_law 640 = .ok (.iconst 3, 1) := od_6 (od_at tB_cL_law_40 0 rfl)
theorem dL_law_641 : decode cL_law 641 = .ok (.iadd, 1) := od_96 (od_at tB_cL_law_40 1 rfl)
theorem dL_law_642 : decode cL_law 642 = .ok (.iaload, 1) := od_46 (od_at tB_cL_law_40 2 rfl)
theorem dL_law_643 : decode cL_law 643 = .ok (.invokevirtual 65, 3) := od_182 (od_at tB_cL_law_40 3 rfl) (od_at tB_cL_law_40 4 rfl) (od_at tB_cL_law_40 5 rfl) rfl
theorem dL_law_646 : decode cL_law 646 = .ok (.pop, 1) := od_87 (od_at tB_cL_law_40 6 rfl)
theorem dL_law_647 : decode cL_law 647 = .ok (.goto 769, 3) := od_167 (od_at tB_cL_law_40 7 rfl) (od_at tB_cL_law_40 8 rfl) (od_at tB_cL_law_40 9 rfl) (by decide +kernel)
theorem dL_law_650 : decode cL_law 650 = .ok (.aload_n 1, 1) := od_43 (od_at tB_cL_law_40 10 rfl)
theorem dL_law_651 : decode cL_law 651 = .ok (.aload_n 0, 1) := od_42 (od_at tB_cL_law_40 11 rfl)
theorem dL_law_652 : decode cL_law 652 = .ok (.iload_n 3, 1) := od_29 (od_at tB_cL_law_40 12 rfl)
theorem dL_law_653 : decode cL_law 653 = .ok (.iconst 1, 1) := od_4 (od_at tB_cL_law_40 13 rfl)
theorem dL_law_654 : decode cL_law 654 = .ok (.iadd, 1) := od_96 (od_at tB_cL_law_40 14 rfl)
theorem dL_law_655 : decode cL_law 655 = .ok (.iaload, 1) := od_46 (od_at tB_cL_law_40 15 rfl)
theorem dL_law_656 : decode cL_law 656 = .ok (.aload_n 0, 1) := od_42 (od_at tB_cL_law_41 0 rfl)
theorem dL_law_657 : decode cL_law 657 = .ok (.iload_n 3, 1) := od_29 (od_at tB_cL_law_41 1 rfl)
theorem dL_law_658 : decode cL_law 658 = .ok (.iconst 2, 1) := od_5 (od_at tB_cL_law_41 2 rfl)
theorem dL_law_659 : decode cL_law 659 = .ok (.iadd, 1) := od_96 (od_at tB_cL_law_41 3 rfl)
theorem dL_law_660 : decode cL_law 660 = .ok (.iaload, 1) := od_46 (od_at tB_cL_law_41 4 rfl)
theorem dL_law_661 : decode cL_law 661 = .ok (.invokevirtual 66, 3) := od_182 (od_at tB_cL_law_41 5 rfl) (od_at tB_cL_law_41 6 rfl) (od_at tB_cL_law_41 7 rfl) rfl
theorem dL_law_664 : decode cL_law 664 = .ok (.pop, 1) := od_87 (od_at tB_cL_law_41 8 rfl)
theorem dL_law_665 : decode cL_law 665 = .ok (.aload_n 2, 1) := od_44 (od_at tB_cL_law_41 9 rfl)
theorem dL_law_666 : decode cL_law 666 = .ok (.aload_n 0, 1) := od_42 (od_at tB_cL_law_41 10 rfl)
theorem dL_law_667 : decode cL_law 667 = .ok (.iload_n 3, 1) := od_29 (od_at tB_cL_law_41 11 rfl)
theorem dL_law_668 : decode cL_law 668 = .ok (.iconst 1, 1) := od_4 (od_at tB_cL_law_41 12 rfl)
theorem dL_law_669 : decode cL_law 669 = .ok (.iadd, 1) := od_96 (od_at tB_cL_law_41 13 rfl)
theorem dL_law_670 : decode cL_law 670 = .ok (.iaload, 1) := od_46 (od_at tB_cL_law_41 14 rfl)
theorem dL_law_671 : decode cL_law 671 = .ok (.aload_n 0, 1) := od_42 (od_at tB_cL_law_41 15 rfl)
theorem dL_law_672 : decode cL_law 672 = .ok (.iload_n 3, 1) := od_29 (od_at tB_cL_law_42 0 rfl)
theorem dL_law_673 : decode cL_law 673 = .ok (.iconst 2, 1) := od_5 (od_at tB_cL_law_42 1 rfl)
theorem dL_law_674 : decode cL_law 674 = .ok (.iadd, 1) := od_96 (od_at tB_cL_law_42 2 rfl)
theorem dL_law_675 : decode cL_law 675 = .ok (.iaload, 1) := od_46 (od_at tB_cL_law_42 3 rfl)
theorem dL_law_676 : decode cL_law 676 = .ok (.invokevirtual 69, 3) := od_182 (od_at tB_cL_law_42 4 rfl) (od_at tB_cL_law_42 5 rfl) (od_at tB_cL_law_42 6 rfl) rfl
theorem dL_law_679 : decode cL_law 679 = .ok (.pop, 1) := od_87 (od_at tB_cL_law_42 7 rfl)
theorem dL_law_680 : decode cL_law 680 = .ok (.goto 736, 3) := od_167 (od_at tB_cL_law_42 8 rfl) (od_at tB_cL_law_42 9 rfl) (od_at tB_cL_law_42 10 rfl) (by decide +kernel)
theorem dL_law_683 : decode cL_law 683 = .ok (.aload_n 1, 1) := od_43 (od_at tB_cL_law_42 11 rfl)
theorem dL_law_684 : decode cL_law 684 = .ok (.aload_n 0, 1) := od_42 (od_at tB_cL_law_42 12 rfl)
theorem dL_law_685 : decode cL_law 685 = .ok (.iload_n 3, 1) := od_29 (od_at tB_cL_law_42 13 rfl)
theorem dL_law_686 : decode cL_law 686 = .ok (.iconst 1, 1) := od_4 (od_at tB_cL_law_42 14 rfl)
theorem dL_law_687 : decode cL_law 687 = .ok (.iadd, 1) := od_96 (od_at tB_cL_law_42 15 rfl)
theorem dL_law_688 : decode cL_law 688 = .ok (.iaload, 1) := od_46 (od_at tB_cL_law_43 0 rfl)
theorem dL_law_689 : decode cL_law 689 = .ok (.invokevirtual 70, 3) := od_182 (od_at tB_cL_law_43 1 rfl) (od_at tB_cL_law_43 2 rfl) (od_at tB_cL_law_43 3 rfl) rfl
theorem dL_law_692 : decode cL_law 692 = .ok (.pop2, 1) := od_88 (od_at tB_cL_law_43 4 rfl)
theorem dL_law_693 : decode cL_law 693 = .ok (.aload_n 2, 1) := od_44 (od_at tB_cL_law_43 5 rfl)
theorem dL_law_694 : decode cL_law 694 = .ok (.aload_n 0, 1) := od_42 (od_at tB_cL_law_43 6 rfl)
theorem dL_law_695 : decode cL_law 695 = .ok (.iload_n 3, 1) := od_29 (od_at tB_cL_law_43 7 rfl)
theorem dL_law_696 : decode cL_law 696 = .ok (.iconst 1, 1) := od_4 (od_at tB_cL_law_43 8 rfl)
theorem dL_law_697 : decode cL_law 697 = .ok (.iadd, 1) := od_96 (od_at tB_cL_law_43 9 rfl)
theorem dL_law_698 : decode cL_law 698 = .ok (.iaload, 1) := od_46 (od_at tB_cL_law_43 10 rfl)
theorem dL_law_699 : decode cL_law 699 = .ok (.invokevirtual 74, 3) := od_182 (od_at tB_cL_law_43 11 rfl) (od_at tB_cL_law_43 12 rfl) (od_at tB_cL_law_43 13 rfl) rfl
theorem dL_law_702 : decode cL_law 702 = .ok (.pop2, 1) := od_88 (od_at tB_cL_law_43 14 rfl)
theorem dL_law_703 : decode cL_law 703 = .ok (.goto 713, 3) := od_167 (od_at tB_cL_law_43 15 rfl) (od_at tB_cL_law_43 16 rfl) (od_at tB_cL_law_43 17 rfl) (by decide +kernel)
theorem dL_law_706 : decode cL_law 706 = .ok (.aload_n 1, 1) := od_43 (od_at tB_cL_law_44 2 rfl)
theorem dL_law_707 : decode cL_law 707 = .ok (.aload_n 0, 1) := od_42 (od_at tB_cL_law_44 3 rfl)
theorem dL_law_708 : decode cL_law 708 = .ok (.iload_n 3, 1) := od_29 (od_at tB_cL_law_44 4 rfl)
theorem dL_law_709 : decode cL_law 709 = .ok (.iconst 1, 1) := od_4 (od_at tB_cL_law_44 5 rfl)
theorem dL_law_710 : decode cL_law 710 = .ok (.iadd, 1) := od_96 (od_at tB_cL_law_44 6 rfl)
theorem dL_law_711 : decode cL_law 711 = .ok (.iaload, 1) := od_46 (od_at tB_cL_law_44 7 rfl)
theorem dL_law_712 : decode cL_law 712 = .ok (.aload_n 0, 1) := od_42 (od_at tB_cL_law_44 8 rfl)
theorem dL_law_713 : decode cL_law 713 = .ok (.iload_n 3, 1) := od_29 (od_at tB_cL_law_44 9 rfl)
theorem dL_law_714 : decode cL_law 714 = .ok (.iconst 2, 1) := od_5 (od_at tB_cL_law_44 10 rfl)
theorem dL_law_715 : decode cL_law 715 = .ok (.iadd, 1) := od_96 (od_at tB_cL_law_44 11 rfl)
theorem dL_law_716 : decode cL_law 716 = .ok (.iaload, 1) := od_46 (od_at tB_cL_law_44 12 rfl)
theorem dL_law_717 : decode cL_law 717 = .ok (.aload_n 0, 1) := od_42 (od_at tB_cL_law_44 13 rfl)
theorem dL_law_718 : decode cL_law 718 = .ok (.iload_n 3, 1) := od_29 (od_at tB_cL_law_44 14 rfl)
theorem dL_law_719 : decode cL_law 719 = .ok (.iconst 3, 1) := od_6 (od_at tB_cL_law_44 15 rfl)
theorem dL_law_720 : decode cL_law 720 = .ok (.iadd, 1) := od_96 (od_at tB_cL_law_45 0 rfl)
theorem dL_law_721 : decode cL_law 721 = .ok (.iaload, 1) := od_46 (od_at tB_cL_law_45 1 rfl)
theorem dL_law_722 : decode cL_law 722 = .ok (.invokevirtual 75, 3) := od_182 (od_at tB_cL_law_45 2 rfl) (od_at tB_cL_law_45 3 rfl) (od_at tB_cL_law_45 4 rfl) rfl
theorem dL_law_725 : decode cL_law 725 = .ok (.pop2, 1) := od_88 (od_at tB_cL_law_45 5 rfl)
theorem dL_law_726 : decode cL_law 726 = .ok (.aload_n 2, 1) := od_44 (od_at tB_cL_law_45 6 rfl)
theorem dL_law_727 : decode cL_law 727 = .ok (.aload_n 0, 1) := od_42 (od_at tB_cL_law_45 7 rfl)
theorem dL_law_728 : decode cL_law 728 = .ok (.iload_n 3, 1) := od_29 (od_at tB_cL_law_45 8 rfl)
theorem dL_law_729 : decode cL_law 729 = .ok (.iconst 1, 1) := od_4 (od_at tB_cL_law_45 9 rfl)
theorem dL_law_730 : decode cL_law 730 = .ok (.iadd, 1) := od_96 (od_at tB_cL_law_45 10 rfl)
theorem dL_law_731 : decode cL_law 731 = .ok (.iaload, 1) := od_46 (od_at tB_cL_law_45 11 rfl)
theorem dL_law_732 : decode cL_law 732 = .ok (.aload_n 0, 1) := od_42 (od_at tB_cL_law_45 12 rfl)
theorem dL_law_733 : decode cL_law 733 = .ok (.iload_n 3, 1) := od_29 (od_at tB_cL_law_45 13 rfl)
theorem dL_law_734 : decode cL_law 734 = .ok (.iconst 2, 1) := od_5 (od_at tB_cL_law_45 14 rfl)
theorem dL_law_735 : decode cL_law 735 = .ok (.iadd, 1) := od_96 (od_at tB_cL_law_45 15 rfl)
theorem dL_law_736 : decode cL_law 736 = .ok (.iaload, 1) := od_46 (od_at tB_cL_law_46 0 rfl)
theorem dL_law_737 : decode cL_law 737 = .ok (.aload_n 0, 1) := od_42 (od_at tB_cL_law_46 1 rfl)
theorem dL_law_738 : decode cL_law 738 = .ok (.iload_n 3, 1) := od_29 (od_at tB_cL_law_46 2 rfl)
theorem dL_law_739 : decode cL_law 739 = .ok (.iconst 3, 1) := od_6 (od_at tB_cL_law_46 3 rfl)
theorem dL_law_740 : decode cL_law 740 = .ok (.iadd, 1) := od_96 (od_at tB_cL_law_46 4 rfl)
theorem dL_law_741 : decode cL_law 741 = .ok (.iaload, 1) := od_46 (od_at tB_cL_law_46 5 rfl)
theorem dL_law_742 : decode cL_law 742 = .ok (.invokevirtual 78, 3) := od_182 (od_at tB_cL_law_46 6 rfl) (od_at tB_cL_law_46 7 rfl) (od_at tB_cL_law_46 8 rfl) rfl
theorem dL_law_745 : decode cL_law 745 = .ok (.pop2, 1) := od_88 (od_at tB_cL_law_46 9 rfl)
theorem dL_law_746 : decode cL_law 746 = .ok (.goto 670, 3) := od_167 (od_at tB_cL_law_46 10 rfl) (od_at tB_cL_law_46 11 rfl) (od_at tB_cL_law_46 12 rfl) (by decide +kernel)
theorem dL_law_749 : decode cL_law 749 = .ok (.aload_n 1, 1) := od_43 (od_at tB_cL_law_46 13 rfl)
theorem dL_law_750 : decode cL_law 750 = .ok (.aload_n 0, 1) := od_42 (od_at tB_cL_law_46 14 rfl)
theorem dL_law_751 : decode cL_law 751 = .ok (.iload_n 3, 1) := od_29 (od_at tB_cL_law_46 15 rfl)
theorem dL_law_752 : decode cL_law 752 = .ok (.iconst 1, 1) := od_4 (od_at tB_cL_law_47 0 rfl)
theorem dL_law_753 : decode cL_law 753 = .ok (.iadd, 1) := od_96 (od_at tB_cL_law_47 1 rfl)
theorem dL_law_754 : decode cL_law 754 = .ok (.iaload, 1) := od_46 (od_at tB_cL_law_47 2 rfl)
theorem dL_law_755 : decode cL_law 755 = .ok (.invokevirtual 79, 3) := od_182 (od_at tB_cL_law_47 3 rfl) (od_at tB_cL_law_47 4 rfl) (od_at tB_cL_law_47 5 rfl) rfl
theorem dL_law_758 : decode cL_law 758 = .ok (.pop, 1) := od_87 (od_at tB_cL_law_47 6 rfl)
theorem dL_law_759 : decode cL_law 759 = .ok (.aload_n 2, 1) := od_44 (od_at tB_cL_law_47 7 rfl)
theorem dL_law_760 : decode cL_law 760 = .ok (.aload_n 0, 1) := od_42 (od_at tB_cL_law_47 8 rfl)
theorem dL_law_761 : decode cL_law 761 = .ok (.iload_n 3, 1) := od_29 (od_at tB_cL_law_47 9 rfl)
theorem dL_law_762 : decode cL_law 762 = .ok (.iconst 1, 1) := od_4 (od_at tB_cL_law_47 10 rfl)
theorem dL_law_763 : decode cL_law 763 = .ok (.iadd, 1) := od_96 (od_at tB_cL_law_47 11 rfl)
theorem dL_law_764 : decode cL_law 764 = .ok (.iaload, 1) := od_46 (od_at tB_cL_law_47 12 rfl)
theorem dL_law_765 : decode cL_law 765 = .ok (.invokevirtual 82, 3) := od_182 (od_at tB_cL_law_47 13 rfl) (od_at tB_cL_law_47 14 rfl) (od_at tB_cL_law_47 15 rfl) rfl
theorem dL_law_768 : decode cL_law 768 = .ok (.pop, 1) := od_87 (od_at tB_cL_law_48 0 rfl)
theorem dL_law_769 : decode cL_law 769 = .ok (.goto 647, 3) := od_167 (od_at tB_cL_law_48 1 rfl) (od_at tB_cL_law_48 2 rfl) (od_at tB_cL_law_48 3 rfl) (by decide +kernel)
theorem dL_law_772 : decode cL_law 772 = .ok (.aload_n 1, 1) := od_43 (od_at tB_cL_law_48 4 rfl)
theorem dL_law_773 : decode cL_law 773 = .ok (.aload_n 0, 1) := od_42 (od_at tB_cL_law_48 5 rfl)
theorem dL_law_774 : decode cL_law 774 = .ok (.iload_n 3, 1) := od_29 (od_at tB_cL_law_48 6 rfl)
theorem dL_law_775 : decode cL_law 775 = .ok (.iconst 1, 1) := od_4 (od_at tB_cL_law_48 7 rfl)
theorem dL_law_776 : decode cL_law 776 = .ok (.iadd, 1) := od_96 (od_at tB_cL_law_48 8 rfl)
theorem dL_law_777 : decode cL_law 777 = .ok (.iaload, 1) := od_46 (od_at tB_cL_law_48 9 rfl)
theorem dL_law_778 : decode cL_law 778 = .ok (.aload_n 0, 1) := od_42 (od_at tB_cL_law_48 10 rfl)
theorem dL_law_779 : decode cL_law 779 = .ok (.iload_n 3, 1) := od_29 (od_at tB_cL_law_48 11 rfl)
theorem dL_law_780 : decode cL_law 780 = .ok (.iconst 2, 1) := od_5 (od_at tB_cL_law_48 12 rfl)
theorem dL_law_781 : decode cL_law 781 = .ok (.iadd, 1) := od_96 (od_at tB_cL_law_48 13 rfl)
theorem dL_law_782 : decode cL_law 782 = .ok (.iaload, 1) := od_46 (od_at tB_cL_law_48 14 rfl)
theorem dL_law_783 : decode cL_law 783 = .ok (.aload_n 0, 1) := od_42 (od_at tB_cL_law_48 15 rfl)
theorem dL_law_784 : decode cL_law 784 = .ok (.iload_n 3, 1) := od_29 (od_at tB_cL_law_49 0 rfl)
theorem dL_law_785 : decode cL_law 785 = .ok (.iconst 3, 1) := od_6 (od_at tB_cL_law_49 1 rfl)
theorem dL_law_786 : decode cL_law 786 = .ok (.iadd, 1) := od_96 (od_at tB_cL_law_49 2 rfl)
theorem dL_law_787 : decode cL_law 787 = .ok (.iaload, 1) := od_46 (od_at tB_cL_law_49 3 rfl)
theorem dL_law_788 : decode cL_law 788 = .ok (.invokevirtual 83, 3) := od_182 (od_at tB_cL_law_49 4 rfl) (od_at tB_cL_law_49 5 rfl) (od_at tB_cL_law_49 6 rfl) rfl
theorem dL_law_791 : decode cL_law 791 = .ok (.pop, 1) := od_87 (od_at tB_cL_law_49 7 rfl)
theorem dL_law_792 : decode cL_law 792 = .ok (.aload_n 2, 1) := od_44 (od_at tB_cL_law_49 8 rfl)
theorem dL_law_793 : decode cL_law 793 = .ok (.aload_n 0, 1) := od_42 (od_at tB_cL_law_49 9 rfl)
theorem dL_law_794 : decode cL_law 794 = .ok (.iload_n 3, 1) := od_29 (od_at tB_cL_law_49 10 rfl)
theorem dL_law_795 : decode cL_law 795 = .ok (.iconst 1, 1) := od_4 (od_at tB_cL_law_49 11 rfl)
theorem dL_law_796 : decode cL_law 796 = .ok (.iadd, 1) := od_96 (od_at tB_cL_law_49 12 rfl)
theorem dL_law_797 : decode cL_law 797 = .ok (.iaload, 1) := od_46 (od_at tB_cL_law_49 13 rfl)
theorem dL_law_798 : decode cL_law 798 = .ok (.aload_n 0, 1) := od_42 (od_at tB_cL_law_49 14 rfl)
theorem dL_law_799 : decode cL_law 799 = .ok (.iload_n 3, 1) := od_29 (od_at tB_cL_law_49 15 rfl)
theorem dL_law_800 : decode cL_law 800 = .ok (.iconst 2, 1) := od_5 (od_at tB_cL_law_50 0 rfl)
theorem dL_law_801 : decode cL_law 801 = .ok (.iadd, 1) := od_96 (od_at tB_cL_law_50 1 rfl)
theorem dL_law_802 : decode cL_law 802 = .ok (.iaload, 1) := od_46 (od_at tB_cL_law_50 2 rfl)
theorem dL_law_803 : decode cL_law 803 = .ok (.aload_n 0, 1) := od_42 (od_at tB_cL_law_50 3 rfl)
theorem dL_law_804 : decode cL_law 804 = .ok (.iload_n 3, 1) := od_29 (od_at tB_cL_law_50 4 rfl)
theorem dL_law_805 : decode cL_law 805 = .ok (.iconst 3, 1) := od_6 (od_at tB_cL_law_50 5 rfl)
theorem dL_law_806 : decode cL_law 806 = .ok (.iadd, 1) := od_96 (od_at tB_cL_law_50 6 rfl)
theorem dL_law_807 : decode cL_law 807 = .ok (.iaload, 1) := od_46 (od_at tB_cL_law_50 7 rfl)
theorem dL_law_808 : decode cL_law 808 = .ok (.invokevirtual 86, 3) := od_182 (od_at tB_cL_law_50 8 rfl) (od_at tB_cL_law_50 9 rfl) (od_at tB_cL_law_50 10 rfl) rfl
theorem dL_law_811 : decode cL_law 811 = .ok (.pop, 1) := od_87 (od_at tB_cL_law_50 11 rfl)
theorem dL_law_812 : decode cL_law 812 = .ok (.goto 604, 3) := od_167 (od_at tB_cL_law_50 12 rfl) (od_at tB_cL_law_50 13 rfl) (od_at tB_cL_law_50 14 rfl) (by decide +kernel)
theorem dL_law_815 : decode cL_law 815 = .ok (.aload_n 1, 1) := od_43 (od_at tB_cL_law_50 15 rfl)
theorem dL_law_816 : decode cL_law 816 = .ok (.aload_n 0, 1) := od_42 (od_at tB_cL_law_51 0 rfl)
theorem dL_law_817 : decode cL_law 817 = .ok (.iload_n 3, 1) := od_29 (od_at tB_cL_law_51 1 rfl)
theorem dL_law_818 : decode cL_law 818 = .ok (.iconst 1, 1) := od_4 (od_at tB_cL_law_51 2 rfl)
theorem dL_law_819 : decode cL_law 819 = .ok (.iadd, 1) := od_96 (od_at tB_cL_law_51 3 rfl)
theorem dL_law_820 : decode cL_law 820 = .ok (.iaload, 1) := od_46 (od_at tB_cL_law_51 4 rfl)
theorem dL_law_821 : decode cL_law 821 = .ok (.aload_n 0, 1) := od_42 (od_at tB_cL_law_51 5 rfl)
theorem dL_law_822 : decode cL_law 822 = .ok (.iload_n 3, 1) := od_29 (od_at tB_cL_law_51 6 rfl)
theorem dL_law_823 : decode cL_law 823 = .ok (.iconst 2, 1) := od_5 (od_at tB_cL_law_51 7 rfl)
theorem dL_law_824 : decode cL_law 824 = .ok (.iadd, 1) := od_96 (od_at tB_cL_law_51 8 rfl)
theorem dL_law_825 : decode cL_law 825 = .ok (.iaload, 1) := od_46 (od_at tB_cL_law_51 9 rfl)
theorem dL_law_826 : decode cL_law 826 = .ok (.invokevirtual 87, 3) := od_182 (od_at tB_cL_law_51 10 rfl) (od_at tB_cL_law_51 11 rfl) (od_at tB_cL_law_51 12 rfl) rfl
theorem dL_law_829 : decode cL_law 829 = .ok (.pop, 1) := od_87 (od_at tB_cL_law_51 13 rfl)
theorem dL_law_830 : decode cL_law 830 = .ok (.aload_n 2, 1) := od_44 (od_at tB_cL_law_51 14 rfl)
theorem dL_law_831 : decode cL_law 831 = .ok (.aload_n 0, 1) := od_42 (od_at tB_cL_law_51 15 rfl)
theorem dL_law_832 : decode cL_law 832 = .ok (.iload_n 3, 1) := od_29 (od_at tB_cL_law_52 0 rfl)
theorem dL_law_833 : decode cL_law 833 = .ok (.iconst 1, 1) := od_4 (od_at tB_cL_law_52 1 rfl)
theorem dL_law_834 : decode cL_law 834 = .ok (.iadd, 1) := od_96 (od_at tB_cL_law_52 2 rfl)
theorem dL_law_835 : decode cL_law 835 = .ok (.iaload, 1) := od_46 (od_at tB_cL_law_52 3 rfl)
theorem dL_law_836 : decode cL_law 836 = .ok (.aload_n 0, 1) := od_42 (od_at tB_cL_law_52 4 rfl)
theorem dL_law_837 : decode cL_law 837 = .ok (.iload_n 3, 1) := od_29 (od_at tB_cL_law_52 5 rfl)
theorem dL_law_838 : decode cL_law 838 = .ok (.iconst 2, 1) := od_5 (od_at tB_cL_law_52 6 rfl)
theorem dL_law_839 : decode cL_law 839 = .ok (.iadd, 1) := od_96 (od_at tB_cL_law_52 7 rfl)
theorem dL_law_840 : decode cL_law 840 = .ok (.iaload, 1) := od_46 (od_at tB_cL_law_52 8 rfl)
theorem dL_law_841 : decode cL_law 841 = .ok (.invokevirtual 90, 3) := od_182 (od_at tB_cL_law_52 9 rfl) (od_at tB_cL_law_52 10 rfl) (od_at tB_cL_law_52 11 rfl) rfl
theorem dL_law_844 : decode cL_law 844 = .ok (.pop, 1) := od_87 (od_at tB_cL_law_52 12 rfl)
theorem dL_law_845 : decode cL_law 845 = .ok (.goto 571, 3) := od_167 (od_at tB_cL_law_52 13 rfl) (od_at tB_cL_law_52 14 rfl) (od_at tB_cL_law_52 15 rfl) (by decide +kernel)
theorem dL_law_848 : decode cL_law 848 = .ok (.aload_n 1, 1) := od_43 (od_at tB_cL_law_53 0 rfl)
theorem dL_law_849 : decode cL_law 849 = .ok (.aload_n 0, 1) := od_42 (od_at tB_cL_law_53 1 rfl)
theorem dL_law_850 : decode cL_law 850 = .ok (.iload_n 3, 1) := od_29 (od_at tB_cL_law_53 2 rfl)
theorem dL_law_851 : decode cL_law 851 = .ok (.iconst 1, 1) := od_4 (od_at tB_cL_law_53 3 rfl)
theorem dL_law_852 : decode cL_law 852 = .ok (.iadd, 1) := od_96 (od_at tB_cL_law_53 4 rfl)
theorem dL_law_853 : decode cL_law 853 = .ok (.iaload, 1) := od_46 (od_at tB_cL_law_53 5 rfl)
theorem dL_law_854 : decode cL_law 854 = .ok (.aload_n 0, 1) := od_42 (od_at tB_cL_law_53 6 rfl)
theorem dL_law_855 : decode cL_law 855 = .ok (.iload_n 3, 1) := od_29 (od_at tB_cL_law_53 7 rfl)
theorem dL_law_856 : decode cL_law 856 = .ok (.iconst 2, 1) := od_5 (od_at tB_cL_law_53 8 rfl)
theorem dL_law_857 : decode cL_law 857 = .ok (.iadd, 1) := od_96 (od_at tB_cL_law_53 9 rfl)
theorem dL_law_858 : decode cL_law 858 = .ok (.iaload, 1) := od_46 (od_at tB_cL_law_53 10 rfl)
theorem dL_law_859 : decode cL_law 859 = .ok (.invokevirtual 91, 3) := od_182 (od_at tB_cL_law_53 11 rfl) (od_at tB_cL_law_53 12 rfl) (od_at tB_cL_law_53 13 rfl) rfl
theorem dL_law_862 : decode cL_law 862 = .ok (.pop, 1) := od_87 (od_at tB_cL_law_53 14 rfl)
theorem dL_law_863 : decode cL_law 863 = .ok (.aload_n 2, 1) := od_44 (od_at tB_cL_law_53 15 rfl)
theorem dL_law_864 : decode cL_law 864 = .ok (.aload_n 0, 1) := od_42 (od_at tB_cL_law_54 0 rfl)
theorem dL_law_865 : decode cL_law 865 = .ok (.iload_n 3, 1) := od_29 (od_at tB_cL_law_54 1 rfl)
theorem dL_law_866 : decode cL_law 866 = .ok (.iconst 1, 1) := od_4 (od_at tB_cL_law_54 2 rfl)
theorem dL_law_867 : decode cL_law 867 = .ok (.iadd, 1) := od_96 (od_at tB_cL_law_54 3 rfl)
theorem dL_law_868 : decode cL_law 868 = .ok (.iaload, 1) := od_46 (od_at tB_cL_law_54 4 rfl)
theorem dL_law_869 : decode cL_law 869 = .ok (.aload_n 0, 1) := od_42 (od_at tB_cL_law_54 5 rfl)
theorem dL_law_870 : decode cL_law 870 = .ok (.iload_n 3, 1) := od_29 (od_at tB_cL_law_54 6 rfl)
theorem dL_law_871 : decode cL_law 871 = .ok (.iconst 2, 1) := od_5 (od_at tB_cL_law_54 7 rfl)
theorem dL_law_872 : decode cL_law 872 = .ok (.iadd, 1) := od_96 (od_at tB_cL_law_54 8 rfl)
theorem dL_law_873 : decode cL_law 873 = .ok (.iaload, 1) := od_46 (od_at tB_cL_law_54 9 rfl)
theorem dL_law_874 : decode cL_law 874 = .ok (.invokevirtual 94, 3) := od_182 (od_at tB_cL_law_54 10 rfl) (od_at tB_cL_law_54 11 rfl) (od_at tB_cL_law_54 12 rfl) rfl
theorem dL_law_877 : decode cL_law 877 = .ok (.pop, 1) := od_87 (od_at tB_cL_law_54 13 rfl)
theorem dL_law_878 : decode cL_law 878 = .ok (.goto 538, 3) := od_167 (od_at tB_cL_law_54 14 rfl) (od_at tB_cL_law_54 15 rfl) (od_at tB_cL_law_54 16 rfl) (by decide +kernel)
theorem dL_law_881 : decode cL_law 881 = .ok (.aload_n 1, 1) := od_43 (od_at tB_cL_law_55 1 rfl)
theorem dL_law_882 : decode cL_law 882 = .ok (.aload_n 0, 1) := od_42 (od_at tB_cL_law_55 2 rfl)
theorem dL_law_883 : decode cL_law 883 = .ok (.iload_n 3, 1) := od_29 (od_at tB_cL_law_55 3 rfl)
theorem dL_law_884 : decode cL_law 884 = .ok (.iconst 1, 1) := od_4 (od_at tB_cL_law_55 4 rfl)
theorem dL_law_885 : decode cL_law 885 = .ok (.iadd, 1) := od_96 (od_at tB_cL_law_55 5 rfl)
theorem dL_law_886 : decode cL_law 886 = .ok (.iaload, 1) := od_46 (od_at tB_cL_law_55 6 rfl)
theorem dL_law_887 : decode cL_law 887 = .ok (.aload_n 0, 1) := od_42 (od_at tB_cL_law_55 7 rfl)
theorem dL_law_888 : decode cL_law 888 = .ok (.iload_n 3, 1) := od_29 (od_at tB_cL_law_55 8 rfl)
theorem dL_law_889 : decode cL_law 889 = .ok (.iconst 2, 1) := od_5 (od_at tB_cL_law_55 9 rfl)
theorem dL_law_890 : decode cL_law 890 = .ok (.iadd, 1) := od_96 (od_at tB_cL_law_55 10 rfl)
theorem dL_law_891 : decode cL_law 891 = .ok (.iaload, 1) := od_46 (od_at tB_cL_law_55 11 rfl)
theorem dL_law_892 : decode cL_law 892 = .ok (.aload_n 0, 1) := od_42 (od_at tB_cL_law_55 12 rfl)
theorem dL_law_893 : decode cL_law 893 = .ok (.iload_n 3, 1) := od_29 (od_at tB_cL_law_55 13 rfl)
theorem dL_law_894 : decode cL_law 894 = .ok (.iconst 3, 1) := od_6 (od_at tB_cL_law_55 14 rfl)
theorem dL_law_895 : decode cL_law 895 = .ok (.iadd, 1) := od_96 (od_at tB_cL_law_55 15 rfl)
theorem dL_law_896 : decode cL_law 896 = .ok (.iaload, 1) := od_46 (od_at tB_cL_law_56 0 rfl)
theorem dL_law_897 : decode cL_law 897 = .ok (.aload_n 0, 1) := od_42 (od_at tB_cL_law_56 1 rfl)
theorem dL_law_898 : decode cL_law 898 = .ok (.iload_n 3, 1) := od_29 (od_at tB_cL_law_56 2 rfl)
theorem dL_law_899 : decode cL_law 899 = .ok (.iconst 4, 1) := od_7 (od_at tB_cL_law_56 3 rfl)
theorem dL_law_900 : decode cL_law 900 = .ok (.iadd, 1) := od_96 (od_at tB_cL_law_56 4 rfl)
theorem dL_law_901 : decode cL_law 901 = .ok (.iaload, 1) := od_46 (od_at tB_cL_law_56 5 rfl)
theorem dL_law_902 : decode cL_law 902 = .ok (.invokevirtual 95, 3) := od_182 (od_at tB_cL_law_56 6 rfl) (od_at tB_cL_law_56 7 rfl) (od_at tB_cL_law_56 8 rfl) rfl
theorem dL_law_905 : decode cL_law 905 = .ok (.pop2, 1) := od_88 (od_at tB_cL_law_56 9 rfl)
theorem dL_law_906 : decode cL_law 906 = .ok (.aload_n 2, 1) := od_44 (od_at tB_cL_law_56 10 rfl)
theorem dL_law_907 : decode cL_law 907 = .ok (.aload_n 0, 1) := od_42 (od_at tB_cL_law_56 11 rfl)
theorem dL_law_908 : decode cL_law 908 = .ok (.iload_n 3, 1) := od_29 (od_at tB_cL_law_56 12 rfl)
theorem dL_law_909 : decode cL_law 909 = .ok (.iconst 1, 1) := od_4 (od_at tB_cL_law_56 13 rfl)
theorem dL_law_910 : decode cL_law 910 = .ok (.iadd, 1) := od_96 (od_at tB_cL_law_56 14 rfl)
theorem dL_law_911 : decode cL_law 911 = .ok (.iaload, 1) := od_46 (od_at tB_cL_law_56 15 rfl)
theorem dL_law_912 : decode cL_law 912 = .ok (.aload_n 0, 1) := od_42 (od_at tB_cL_law_57 0 rfl)
theorem dL_law_913 : decode cL_law 913 = .ok (.iload_n 3, 1) := od_29 (od_at tB_cL_law_57 1 rfl)
theorem dL_law_914 : decode cL_law 914 = .ok (.iconst 2, 1) := od_5 (od_at tB_cL_law_57 2 rfl)
theorem dL_law_915 : decode cL_law 915 = .ok (.iadd, 1) := od_96 (od_at tB_cL_law_57 3 rfl)
theorem dL_law_916 : decode cL_law 916 = .ok (.iaload, 1) := od_46 (od_at tB_cL_law_57 4 rfl)
theorem dL_law_917 : decode cL_law 917 = .ok (.aload_n 0, 1) := od_42 (od_at tB_cL_law_57 5 rfl)
theorem dL_law_918 : decode cL_law 918 = .ok (.iload_n 3, 1) := od_29 (od_at tB_cL_law_57 6 rfl)
theorem dL_law_919 : decode cL_law 919 = .ok (.iconst 3, 1) := od_6 (od_at tB_cL_law_57 7 rfl)
theorem dL_law_920 : decode cL_law 920 = .ok (.iadd, 1) := od_96 (od_at tB_cL_law_57 8 rfl)
theorem dL_law_921 : decode cL_law 921 = .ok (.iaload, 1) := od_46 (od_at tB_cL_law_57 9 rfl)
theorem dL_law_922 : decode cL_law 922 = .ok (.aload_n 0, 1) := od_42 (od_at tB_cL_law_57 10 rfl)
theorem dL_law_923 : decode cL_law 923 = .ok (.iload_n 3, 1) := od_29 (od_at tB_cL_law_57 11 rfl)
theorem dL_law_924 : decode cL_law 924 = .ok (.iconst 4, 1) := od_7 (od_at tB_cL_law_57 12 rfl)
theorem dL_law_925 : decode cL_law 925 = .ok (.iadd, 1) := od_96 (od_at tB_cL_law_57 13 rfl)
theorem dL_law_926 : decode cL_law 926 = .ok (.iaload, 1) := od_46 (od_at tB_cL_law_57 14 rfl)
theorem dL_law_927 : decode cL_law 927 = .ok (.invokevirtual 99, 3) := od_182 (od_at tB_cL_law_57 15 rfl) (od_at tB_cL_law_57 16 rfl) (od_at tB_cL_law_57 17 rfl) rfl
theorem dL_law_930 : decode cL_law 930 = .ok (.pop2, 1) := od_88 (od_at tB_cL_law_58 2 rfl)
theorem dL_law_931 : decode cL_law 931 = .ok (.goto 485, 3) := od_167 (od_at tB_cL_law_58 3 rfl) (od_at tB_cL_law_58 4 rfl) (od_at tB_cL_law_58 5 rfl) (by decide +kernel)
theorem dL_law_934 : decode cL_law 934 = .ok (.aload_n 1, 1) := od_43 (od_at tB_cL_law_58 6 rfl)
theorem dL_law_935 : decode cL_law 935 = .ok (.aload_n 0, 1) := od_42 (od_at tB_cL_law_58 7 rfl)
theorem dL_law_936 : decode cL_law 936 = .ok (.iload_n 3, 1) := od_29 (od_at tB_cL_law_58 8 rfl)
theorem dL_law_937 : decode cL_law 937 = .ok (.iconst 1, 1) := od_4 (od_at tB_cL_law_58 9 rfl)
theorem dL_law_938 : decode cL_law 938 = .ok (.iadd, 1) := od_96 (od_at tB_cL_law_58 10 rfl)
theorem dL_law_939 : decode cL_law 939 = .ok (.iaload, 1) := od_46 (od_at tB_cL_law_58 11 rfl)
theorem dL_law_940 : decode cL_law 940 = .ok (.aload_n 0, 1) := od_42 (od_at tB_cL_law_58 12 rfl)
theorem dL_law_941 : decode cL_law 941 = .ok (.iload_n 3, 1) := od_29 (od_at tB_cL_law_58 13 rfl)
theorem dL_law_942 : decode cL_law 942 = .ok (.iconst 2, 1) := od_5 (od_at tB_cL_law_58 14 rfl)
theorem dL_law_943 : decode cL_law 943 = .ok (.iadd, 1) := od_96 (od_at tB_cL_law_58 15 rfl)
theorem dL_law_944 : decode cL_law 944 = .ok (.iaload, 1) := od_46 (od_at tB_cL_law_59 0 rfl)
theorem dL_law_945 : decode cL_law 945 = .ok (.invokevirtual 100, 3) := od_182 (od_at tB_cL_law_59 1 rfl) (od_at tB_cL_law_59 2 rfl) (od_at tB_cL_law_59 3 rfl) rfl
theorem dL_law_948 : decode cL_law 948 = .ok (.pop, 1) := od_87 (od_at tB_cL_law_59 4 rfl)
theorem dL_law_949 : decode cL_law 949 = .ok (.aload_n 2, 1) := od_44 (od_at tB_cL_law_59 5 rfl)
theorem dL_law_950 : decode cL_law 950 = .ok (.aload_n 0, 1) := od_42 (od_at tB_cL_law_59 6 rfl)
theorem dL_law_951 : decode cL_law 951 = .ok (.iload_n 3, 1) := od_29 (od_at tB_cL_law_59 7 rfl)
theorem dL_law_952 : decode cL_law 952 = .ok (.iconst 1, 1) := od_4 (od_at tB_cL_law_59 8 rfl)
theorem dL_law_953 : decode cL_law 953 = .ok (.iadd, 1) := od_96 (od_at tB_cL_law_59 9 rfl)
theorem dL_law_954 : decode cL_law 954 = .ok (.iaload, 1) := od_46 (od_at tB_cL_law_59 10 rfl)
theorem dL_law_955 : decode cL_law 955 = .ok (.aload_n 0, 1) := od_42 (od_at tB_cL_law_59 11 rfl)
theorem dL_law_956 : decode cL_law 956 = .ok (.iload_n 3, 1) := od_29 (od_at tB_cL_law_59 12 rfl)
theorem dL_law_957 : decode cL_law 957 = .ok (.iconst 2, 1) := od_5 (od_at tB_cL_law_59 13 rfl)
theorem dL_law_958 : decode cL_law 958 = .ok (.iadd, 1) := od_96 (od_at tB_cL_law_59 14 rfl)
theorem dL_law_959 : decode cL_law 959 = .ok (.iaload, 1) := od_46 (od_at tB_cL_law_59 15 rfl)
theorem dL_law_960 : decode cL_law 960 = .ok (.invokevirtual 103, 3) := od_182 (od_at tB_cL_law_60 0 rfl) (od_at tB_cL_law_60 1 rfl) (od_at tB_cL_law_60 2 rfl) rfl
theorem dL_law_963 : decode cL_law 963 = .ok (.pop, 1) := od_87 (od_at tB_cL_law_60 3 rfl)
theorem dL_law_964 : decode cL_law 964 = .ok (.goto 452, 3) := od_167 (od_at tB_cL_law_60 4 rfl) (od_at tB_cL_law_60 5 rfl) (od_at tB_cL_law_60 6 rfl) (by decide +kernel)
theorem dL_law_967 : decode cL_law 967 = .ok (.aload_n 1, 1) := od_43 (od_at tB_cL_law_60 7 rfl)
theorem dL_law_968 : decode cL_law 968 = .ok (.aload_n 0, 1) := od_42 (od_at tB_cL_law_60 8 rfl)
theorem dL_law_969 : decode cL_law 969 = .ok (.iload_n 3, 1) := od_29 (od_at tB_cL_law_60 9 rfl)
theorem dL_law_970 : decode cL_law 970 = .ok (.iconst 1, 1) := od_4 (od_at tB_cL_law_60 10 rfl)
theorem dL_law_971 : decode cL_law 971 = .ok (.iadd, 1) := od_96 (od_at tB_cL_law_60 11 rfl)
theorem dL_law_972 : decode cL_law 972 = .ok (.iaload, 1) := od_46 (od_at tB_cL_law_60 12 rfl)
theorem dL_law_973 : decode cL_law 973 = .ok (.aload_n 0, 1) := od_42 (od_at tB_cL_law_60 13 rfl)
theorem dL_law_974 : decode cL_law 974 = .ok (.iload_n 3, 1) := od_29 (od_at tB_cL_law_60 14 rfl)
theorem dL_law_975 : decode cL_law 975 = .ok (.iconst 2, 1) := od_5 (od_at tB_cL_law_60 15 rfl)
theorem dL_law_976 : decode cL_law 976 = .ok (.iadd, 1) := od_96 (od_at tB_cL_law_61 0 rfl)
theorem dL_law_977 : decode cL_law 977 = .ok (.iaload, 1) := od_46 (od_at tB_cL_law_61 1 rfl)
theorem dL_law_978 : decode cL_law 978 = .ok (.aload_n 0, 1) := od_42 (od_at tB_cL_law_61 2 rfl)
theorem dL_law_979 : decode cL_law 979 = .ok (.iload_n 3, 1) := od_29 (od_at tB_cL_law_61 3 rfl)
theorem dL_law_980 : decode cL_law 980 = .ok (.iconst 3, 1) := od_6 (od_at tB_cL_law_61 4 rfl)
theorem dL_law_981 : decode cL_law 981 = .ok (.iadd, 1) := od_96 (od_at tB_cL_law_61 5 rfl)
theorem dL_law_982 : decode cL_law 982 = .ok (.iaload, 1) := od_46 (od_at tB_cL_law_61 6 rfl)
theorem dL_law_983 : decode cL_law 983 = .ok (.invokevirtual 104, 3) := od_182 (od_at tB_cL_law_61 7 rfl) (od_at tB_cL_law_61 8 rfl) (od_at tB_cL_law_61 9 rfl) rfl
theorem dL_law_986 : decode cL_law 986 = .ok (.pop2, 1) := od_88 (od_at tB_cL_law_61 10 rfl)
theorem dL_law_987 : decode cL_law 987 = .ok (.aload_n 2, 1) := od_44 (od_at tB_cL_law_61 11 rfl)
theorem dL_law_988 : decode cL_law 988 = .ok (.aload_n 0, 1) := od_42 (od_at tB_cL_law_61 12 rfl)
theorem dL_law_989 : decode cL_law 989 = .ok (.iload_n 3, 1) := od_29 (od_at tB_cL_law_61 13 rfl)
theorem dL_law_990 : decode cL_law 990 = .ok (.iconst 1, 1) := od_4 (od_at tB_cL_law_61 14 rfl)
theorem dL_law_991 : decode cL_law 991 = .ok (.iadd, 1) := od_96 (od_at tB_cL_law_61 15 rfl)
theorem dL_law_992 : decode cL_law 992 = .ok (.iaload, 1) := od_46 (od_at tB_cL_law_62 0 rfl)
theorem dL_law_993 : decode cL_law 993 = .ok (.aload_n 0, 1) := od_42 (od_at tB_cL_law_62 1 rfl)
theorem dL_law_994 : decode cL_law 994 = .ok (.iload_n 3, 1) := od_29 (od_at tB_cL_law_62 2 rfl)
theorem dL_law_995 : decode cL_law 995 = .ok (.iconst 2, 1) := od_5 (od_at tB_cL_law_62 3 rfl)
theorem dL_law_996 : decode cL_law 996 = .ok (.iadd, 1) := od_96 (od_at tB_cL_law_62 4 rfl)
theorem dL_law_997 : decode cL_law 997 = .ok (.iaload, 1) := od_46 (od_at tB_cL_law_62 5 rfl)
theorem dL_law_998 : decode cL_law 998 = .ok (.aload_n 0, 1) := od_42 (od_at tB_cL_law_62 6 rfl)
theorem dL_law_999 : decode cL_law 999 = .ok (.iload_n 3, 1) := od_29 (od_at tB_cL_law_62 7 rfl)
theorem dL_law_1000 : decode cL_law 1000 = .ok (.iconst 3, 1) := od_6 (od_at tB_cL_law_62 8 rfl)
theorem dL_law_1001 : decode cL_law 1001 = .ok (.iadd, 1) := od_96 (od_at tB_cL_law_62 9 rfl)
theorem dL_law_1002 : decode cL_law 1002 = .ok (.iaload, 1) := od_46 (od_at tB_cL_law_62 10 rfl)
theorem dL_law_1003 : decode cL_law 1003 = .ok (.invokevirtual 107, 3) := od_182 (od_at tB_cL_law_62 11 rfl) (od_at tB_cL_law_62 12 rfl) (od_at tB_cL_law_62 13 rfl) rfl
theorem dL_law_1006 : decode cL_law 1006 = .ok (.pop2, 1) := od_88 (od_at tB_cL_law_62 14 rfl)
theorem dL_law_1007 : decode cL_law 1007 = .ok (.goto 409, 3) := od_167 (od_at tB_cL_law_62 15 rfl) (od_at tB_cL_law_62 16 rfl) (od_at tB_cL_law_62 17 rfl) (by decide +kernel)
theorem dL_law_1010 : decode cL_law 1010 = .ok (.aload_n 1, 1) := od_43 (od_at tB_cL_law_63 2 rfl)
theorem dL_law_1011 : decode cL_law 1011 = .ok (.aload_n 0, 1) := od_42 (od_at tB_cL_law_63 3 rfl)
theorem dL_law_1012 : decode cL_law 1012 = .ok (.iload_n 3, 1) := od_29 (od_at tB_cL_law_63 4 rfl)
theorem dL_law_1013 : decode cL_law 1013 = .ok (.iconst 1, 1) := od_4 (od_at tB_cL_law_63 5 rfl)
theorem dL_law_1014 : decode cL_law 1014 = .ok (.iadd, 1) := od_96 (od_at tB_cL_law_63 6 rfl)
theorem dL_law_1015 : decode cL_law 1015 = .ok (.iaload, 1) := od_46 (od_at tB_cL_law_63 7 rfl)
theorem dL_law_1016 : decode cL_law 1016 = .ok (.aload_n 0, 1) := od_42 (od_at tB_cL_law_63 8 rfl)
theorem dL_law_1017 : decode cL_law 1017 = .ok (.iload_n 3, 1) := od_29 (od_at tB_cL_law_63 9 rfl)
theorem dL_law_1018 : decode cL_law 1018 = .ok (.iconst 2, 1) := od_5 (od_at tB_cL_law_63 10 rfl)
theorem dL_law_1019 : decode cL_law 1019 = .ok (.iadd, 1) := od_96 (od_at tB_cL_law_63 11 rfl)
theorem dL_law_1020 : decode cL_law 1020 = .ok (.iaload, 1) := od_46 (od_at tB_cL_law_63 12 rfl)
theorem dL_law_1021 : decode cL_law 1021 = .ok (.aload_n 0, 1) := od_42 (od_at tB_cL_law_63 13 rfl)
theorem dL_law_1022 : decode cL_law 1022 = .ok (.iload_n 3, 1) := od_29 (od_at tB_cL_law_63 14 rfl)
theorem dL_law_1023 : decode cL_law 1023 = .ok (.iconst 3, 1) := od_6 (od_at tB_cL_law_63 15 rfl)
theorem dL_law_1024 : decode cL_law 1024 = .ok (.iadd, 1) := od_96 (od_at tB_cL_law_64 0 rfl)
theorem dL_law_1025 : decode cL_law 1025 = .ok (.iaload, 1) := od_46 (od_at tB_cL_law_64 1 rfl)
theorem dL_law_1026 : decode cL_law 1026 = .ok (.invokevirtual 108, 3) := od_182 (od_at tB_cL_law_64 2 rfl) (od_at tB_cL_law_64 3 rfl) (od_at tB_cL_law_64 4 rfl) rfl
theorem dL_law_1029 : decode cL_law 1029 = .ok (.pop, 1) := od_87 (od_at tB_cL_law_64 5 rfl)
theorem dL_law_1030 : decode cL_law 1030 = .ok (.aload_n 2, 1) := od_44 (od_at tB_cL_law_64 6 rfl)
theorem dL_law_1031 : decode cL_law 1031 = .ok (.aload_n 0, 1) := od_42 (od_at tB_cL_law_64 7 rfl)
theorem dL_law_1032 : decode cL_law 1032 = .ok (.iload_n 3, 1) := od_29 (od_at tB_cL_law_64 8 rfl)
theorem dL_law_1033 : decode cL_law 1033 = .ok (.iconst 1, 1) := od_4 (od_at tB_cL_law_64 9 rfl)
theorem dL_law_1034 : decode cL_law 1034 = .ok (.iadd, 1) := od_96 (od_at tB_cL_law_64 10 rfl)
theorem dL_law_1035 : decode cL_law 1035 = .ok (.iaload, 1) := od_46 (od_at tB_cL_law_64 11 rfl)
theorem dL_law_1036 : decode cL_law 1036 = .ok (.aload_n 0, 1) := od_42 (od_at tB_cL_law_64 12 rfl)
theorem dL_law_1037 : decode cL_law 1037 = .ok (.iload_n 3, 1) := od_29 (od_at tB_cL_law_64 13 rfl)
theorem dL_law_1038 : decode cL_law 1038 = .ok (.iconst 2, 1) := od_5 (od_at tB_cL_law_64 14 rfl)
theorem dL_law_1039 : decode cL_law 1039 = .ok (.iadd, 1) := od_96 (od_at tB_cL_law_64 15 rfl)
theorem dL_law_1040 : decode cL_law 1040 = .ok (.iaload, 1) := od_46 (od_at tB_cL_law_65 0 rfl)
theorem dL_law_1041 : decode cL_law 1041 = .ok (.aload_n 0, 1) := od_42 (od_at tB_cL_law_65 1 rfl)
theorem dL_law_1042 : decode cL_law 1042 = .ok (.iload_n 3, 1) := od_29 (od_at tB_cL_law_65 2 rfl)
theorem dL_law_1043 : decode cL_law 1043 = .ok (.iconst 3, 1) := od_6 (od_at tB_cL_law_65 3 rfl)
theorem dL_law_1044 : decode cL_law 1044 = .ok (.iadd, 1) := od_96 (od_at tB_cL_law_65 4 rfl)
theorem dL_law_1045 : decode cL_law 1045 = .ok (.iaload, 1) := od_46 (od_at tB_cL_law_65 5 rfl)
theorem dL_law_1046 : decode cL_law 1046 = .ok (.invokevirtual 111, 3) := od_182 (od_at tB_cL_law_65 6 rfl) (od_at tB_cL_law_65 7 rfl) (od_at tB_cL_law_65 8 rfl) rfl
theorem dL_law_1049 : decode cL_law 1049 = .ok (.pop, 1) := od_87 (od_at tB_cL_law_65 9 rfl)
theorem dL_law_1050 : decode cL_law 1050 = .ok (.goto 366, 3) := od_167 (od_at tB_cL_law_65 10 rfl) (od_at tB_cL_law_65 11 rfl) (od_at tB_cL_law_65 12 rfl) (by decide +kernel)
theorem dL_law_1053 : decode cL_law 1053 = .ok (.aload_n 1, 1) := od_43 (od_at tB_cL_law_65 13 rfl)
theorem dL_law_1054 : decode cL_law 1054 = .ok (.aload_n 0, 1) := od_42 (od_at tB_cL_law_65 14 rfl)
theorem dL_law_1055 : decode cL_law 1055 = .ok (.iload_n 3, 1) := od_29 (od_at tB_cL_law_65 15 rfl)
theorem dL_law_1056 : decode cL_law 1056 = .ok (.iconst 1, 1) := od_4 (od_at tB_cL_law_66 0 rfl)
theorem dL_law_1057 : decode cL_law 1057 = .ok (.iadd, 1) := od_96 (od_at tB_cL_law_66 1 rfl)
theorem dL_law_1058 : decode cL_law 1058 = .ok (.iaload, 1) := od_46 (od_at tB_cL_law_66 2 rfl)
theorem dL_law_1059 : decode cL_law 1059 = .ok (.invokevirtual 112, 3) := od_182 (od_at tB_cL_law_66 3 rfl) (od_at tB_cL_law_66 4 rfl) (od_at tB_cL_law_66 5 rfl) rfl
theorem dL_law_1062 : decode cL_law 1062 = .ok (.pop, 1) := od_87 (od_at tB_cL_law_66 6 rfl)
theorem dL_law_1063 : decode cL_law 1063 = .ok (.aload_n 2, 1) := od_44 (od_at tB_cL_law_66 7 rfl)
theorem dL_law_1064 : decode cL_law 1064 = .ok (.aload_n 0, 1) := od_42 (od_at tB_cL_law_66 8 rfl)
theorem dL_law_1065 : decode cL_law 1065 = .ok (.iload_n 3, 1) := od_29 (od_at tB_cL_law_66 9 rfl)
theorem dL_law_1066 : decode cL_law 1066 = .ok (.iconst 1, 1) := od_4 (od_at tB_cL_law_66 10 rfl)
theorem dL_law_1067 : decode cL_law 1067 = .ok (.iadd, 1) := od_96 (od_at tB_cL_law_66 11 rfl)
theorem dL_law_1068 : decode cL_law 1068 = .ok (.iaload, 1) := od_46 (od_at tB_cL_law_66 12 rfl)
theorem dL_law_1069 : decode cL_law 1069 = .ok (.invokevirtual 115, 3) := od_182 (od_at tB_cL_law_66 13 rfl) (od_at tB_cL_law_66 14 rfl) (od_at tB_cL_law_66 15 rfl) rfl
theorem dL_law_1072 : decode cL_law 1072 = .ok (.pop, 1) := od_87 (od_at tB_cL_law_67 0 rfl)
theorem dL_law_1073 : decode cL_law 1073 = .ok (.goto 343, 3) := od_167 (od_at tB_cL_law_67 1 rfl) (od_at tB_cL_law_67 2 rfl) (od_at tB_cL_law_67 3 rfl) (by decide +kernel)
theorem dL_law_1076 : decode cL_law 1076 = .ok (.aload_n 1, 1) := od_43 (od_at tB_cL_law_67 4 rfl)
theorem dL_law_1077 : decode cL_law 1077 = .ok (.aload_n 0, 1) := od_42 (od_at tB_cL_law_67 5 rfl)
theorem dL_law_1078 : decode cL_law 1078 = .ok (.iload_n 3, 1) := od_29 (od_at tB_cL_law_67 6 rfl)
theorem dL_law_1079 : decode cL_law 1079 = .ok (.iconst 1, 1) := od_4 (od_at tB_cL_law_67 7 rfl)
theorem dL_law_1080 : decode cL_law 1080 = .ok (.iadd, 1) := od_96 (od_at tB_cL_law_67 8 rfl)
theorem dL_law_1081 : decode cL_law 1081 = .ok (.iaload, 1) := od_46 (od_at tB_cL_law_67 9 rfl)
theorem dL_law_1082 : decode cL_law 1082 = .ok (.aload_n 0, 1) := od_42 (od_at tB_cL_law_67 10 rfl)
theorem dL_law_1083 : decode cL_law 1083 = .ok (.iload_n 3, 1) := od_29 (od_at tB_cL_law_67 11 rfl)
theorem dL_law_1084 : decode cL_law 1084 = .ok (.iconst 2, 1) := od_5 (od_at tB_cL_law_67 12 rfl)
theorem dL_law_1085 : decode cL_law 1085 = .ok (.iadd, 1) := od_96 (od_at tB_cL_law_67 13 rfl)
theorem dL_law_1086 : decode cL_law 1086 = .ok (.iaload, 1) := od_46 (od_at tB_cL_law_67 14 rfl)
theorem dL_law_1087 : decode cL_law 1087 = .ok (.aload_n 0, 1) := od_42 (od_at tB_cL_law_67 15 rfl)
theorem dL_law_1088 : decode cL_law 1088 = .ok (.iload_n 3, 1) := od_29 (od_at tB_cL_law_68 0 rfl)
theorem dL_law_1089 : decode cL_law 1089 = .ok (.iconst 3, 1) := od_6 (od_at tB_cL_law_68 1 rfl)
theorem dL_law_1090 : decode cL_law 1090 = .ok (.iadd, 1) := od_96 (od_at tB_cL_law_68 2 rfl)
theorem dL_law_1091 : decode cL_law 1091 = .ok (.iaload, 1) := od_46 (od_at tB_cL_law_68 3 rfl)
theorem dL_law_1092 : decode cL_law 1092 = .ok (.invokevirtual 116, 3) := od_182 (od_at tB_cL_law_68 4 rfl) (od_at tB_cL_law_68 5 rfl) (od_at tB_cL_law_68 6 rfl) rfl
theorem dL_law_1095 : decode cL_law 1095 = .ok (.pop, 1) := od_87 (od_at tB_cL_law_68 7 rfl)
theorem dL_law_1096 : decode cL_law 1096 = .ok (.aload_n 2, 1) := od_44 (od_at tB_cL_law_68 8 rfl)
theorem dL_law_1097 : decode cL_law 1097 = .ok (.aload_n 0, 1) := od_42 (od_at tB_cL_law_68 9 rfl)
theorem dL_law_1098 : decode cL_law 1098 = .ok (.iload_n 3, 1) := od_29 (od_at tB_cL_law_68 10 rfl)
theorem dL_law_1099 : decode cL_law 1099 = .ok (.iconst 1, 1) := od_4 (od_at tB_cL_law_68 11 rfl)
theorem dL_law_1100 : decode cL_law 1100 = .ok (.iadd, 1) := od_96 (od_at tB_cL_law_68 12 rfl)
theorem dL_law_1101 : decode cL_law 1101 = .ok (.iaload, 1) := od_46 (od_at tB_cL_law_68 13 rfl)
theorem dL_law_1102 : decode cL_law 1102 = .ok (.aload_n 0, 1) := od_42 (od_at tB_cL_law_68 14 rfl)
theorem dL_law_1103 : decode cL_law 1103 = .ok (.iload_n 3, 1) := od_29 (od_at tB_cL_law_68 15 rfl)
theorem dL_law_1104 : decode cL_law 1104 = .ok (.iconst 2, 1) := od_5 (od_at tB_cL_law_69 0 rfl)
theorem dL_law_1105 : decode cL_law 1105 = .ok (.iadd, 1) := od_96 (od_at tB_cL_law_69 1 rfl)
theorem dL_law_1106 : decode cL_law 1106 = .ok (.iaload, 1) := od_46 (od_at tB_cL_law_69 2 rfl)
theorem dL_law_1107 : decode cL_law 1107 = .ok (.aload_n 0, 1) := od_42 (od_at tB_cL_law_69 3 rfl)
theorem dL_law_1108 : decode cL_law 1108 = .ok (.iload_n 3, 1) := od_29 (od_at tB_cL_law_69 4 rfl)
theorem dL_law_1109 : decode cL_law 1109 = .ok (.iconst 3, 1) := od_6 (od_at tB_cL_law_69 5 rfl)
theorem dL_law_1110 : decode cL_law 1110 = .ok (.iadd, 1) := od_96 (od_at tB_cL_law_69 6 rfl)
theorem dL_law_1111 : decode cL_law 1111 = .ok (.iaload, 1) := od_46 (od_at tB_cL_law_69 7 rfl)
theorem dL_law_1112 : decode cL_law 1112 = .ok (.invokevirtual 119, 3) := od_182 (od_at tB_cL_law_69 8 rfl) (od_at tB_cL_law_69 9 rfl) (od_at tB_cL_law_69 10 rfl) rfl
theorem dL_law_1115 : decode cL_law 1115 = .ok (.pop, 1) := od_87 (od_at tB_cL_law_69 11 rfl)
theorem dL_law_1116 : decode cL_law 1116 = .ok (.goto 300, 3) := od_167 (od_at tB_cL_law_69 12 rfl) (od_at tB_cL_law_69 13 rfl) (od_at tB_cL_law_69 14 rfl) (by decide +kernel)
theorem dL_law_1119 : decode cL_law 1119 = .ok (.aload_n 1, 1) := od_43 (od_at tB_cL_law_69 15 rfl)
theorem dL_law_1120 : decode cL_law 1120 = .ok (.aload_n 0, 1) := od_42 (od_at tB_cL_law_70 0 rfl)
theorem dL_law_1121 : decode cL_law 1121 = .ok (.iload_n 3, 1) := od_29 (od_at tB_cL_law_70 1 rfl)
theorem dL_law_1122 : decode cL_law 1122 = .ok (.iconst 1, 1) := od_4 (od_at tB_cL_law_70 2 rfl)
theorem dL_law_1123 : decode cL_law 1123 = .ok (.iadd, 1) := od_96 (od_at tB_cL_law_70 3 rfl)
theorem dL_law_1124 : decode cL_law 1124 = .ok (.iaload, 1) := od_46 (od_at tB_cL_law_70 4 rfl)
theorem dL_law_1125 : decode cL_law 1125 = .ok (.aload_n 0, 1) := od_42 (od_at tB_cL_law_70 5 rfl)
theorem dL_law_1126 : decode cL_law 1126 = .ok (.iload_n 3, 1) := od_29 (od_at tB_cL_law_70 6 rfl)
theorem dL_law_1127 : decode cL_law 1127 = .ok (.iconst 2, 1) := od_5 (od_at tB_cL_law_70 7 rfl)
theorem dL_law_1128 : decode cL_law 1128 = .ok (.iadd, 1) := od_96 (od_at tB_cL_law_70 8 rfl)
theorem dL_law_1129 : decode cL_law 1129 = .ok (.iaload, 1) := od_46 (od_at tB_cL_law_70 9 rfl)
theorem dL_law_1130 : decode cL_law 1130 = .ok (.aload_n 0, 1) := od_42 (od_at tB_cL_law_70 10 rfl)
theorem dL_law_1131 : decode cL_law 1131 = .ok (.iload_n 3, 1) := od_29 (od_at tB_cL_law_70 11 rfl)
theorem dL_law_1132 : decode cL_law 1132 = .ok (.iconst 3, 1) := od_6 (od_at tB_cL_law_70 12 rfl)
theorem dL_law_1133 : decode cL_law 1133 = .ok (.iadd, 1) := od_96 (od_at tB_cL_law_70 13 rfl)
theorem dL_law_1134 : decode cL_law 1134 = .ok (.iaload, 1) := od_46 (od_at tB_cL_law_70 14 rfl)
theorem dL_law_1135 : decode cL_law 1135 = .ok (.invokevirtual 120, 3) := od_182 (od_at tB_cL_law_70 15 rfl) (od_at tB_cL_law_70 16 rfl) (od_at tB_cL_law_70 17 rfl) rfl
theorem dL_law_1138 : decode cL_law 1138 = .ok (.pop2, 1) := od_88 (od_at tB_cL_law_71 2 rfl)
theorem dL_law_1139 : decode cL_law 1139 = .ok (.aload_n 2, 1) := od_44 (od_at tB_cL_law_71 3 rfl)
theorem dL_law_1140 : decode cL_law 1140 = .ok (.aload_n 0, 1) := od_42 (od_at tB_cL_law_71 4 rfl)
theorem dL_law_1141 : decode cL_law 1141 = .ok (.iload_n 3, 1) := od_29 (od_at tB_cL_law_71 5 rfl)
theorem dL_law_1142 : decode cL_law 1142 = .ok (.iconst 1, 1) := od_4 (od_at tB_cL_law_71 6 rfl)
theorem dL_law_1143 : decode cL_law 1143 = .ok (.iadd, 1) := od_96 (od_at tB_cL_law_71 7 rfl)
theorem dL_law_1144 : decode cL_law 1144 = .ok (.iaload, 1) := od_46 (od_at tB_cL_law_71 8 rfl)
theorem dL_law_1145 : decode cL_law 1145 = .ok (.aload_n 0, 1) := od_42 (od_at tB_cL_law_71 9 rfl)
theorem dL_law_1146 : decode cL_law 1146 = .ok (.iload_n 3, 1) := od_29 (od_at tB_cL_law_71 10 rfl)
theorem dL_law_1147 : decode cL_law 1147 = .ok (.iconst 2, 1) := od_5 (od_at tB_cL_law_71 11 rfl)
theorem dL_law_1148 : decode cL_law 1148 = .ok (.iadd, 1) := od_96 (od_at tB_cL_law_71 12 rfl)
theorem dL_law_1149 : decode cL_law 1149 = .ok (.iaload, 1) := od_46 (od_at tB_cL_law_71 13 rfl)
theorem dL_law_1150 : decode cL_law 1150 = .ok (.aload_n 0, 1) := od_42 (od_at tB_cL_law_71 14 rfl)
theorem dL_law_1151 : decode cL_law 1151 = .ok (.iload_n 3, 1) := od_29 (od_at tB_cL_law_71 15 rfl)
theorem dL_law_1152 : decode cL_law 1152 = .ok (.iconst 3, 1) := od_6 (od_at tB_cL_law_72 0 rfl)
theorem dL_law_1153 : decode cL_law 1153 = .ok (.iadd, 1) := od_96 (od_at tB_cL_law_72 1 rfl)
theorem dL_law_1154 : decode cL_law 1154 = .ok (.iaload, 1) := od_46 (od_at tB_cL_law_72 2 rfl)
theorem dL_law_1155 : decode cL_law 1155 = .ok (.invokevirtual 123, 3) := od_182 (od_at tB_cL_law_72 3 rfl) (od_at tB_cL_law_72 4 rfl) (od_at tB_cL_law_72 5 rfl) rfl
theorem dL_law_1158 : decode cL_law 1158 = .ok (.pop2, 1) := od_88 (od_at tB_cL_law_72 6 rfl)
theorem dL_law_1159 : decode cL_law 1159 = .ok (.goto 257, 3) := od_167 (od_at tB_cL_law_72 7 rfl) (od_at tB_cL_law_72 8 rfl) (od_at tB_cL_law_72 9 rfl) (by decide +kernel)
theorem dL_law_1162 : decode cL_law 1162 = .ok (.aload_n 1, 1) := od_43 (od_at tB_cL_law_72 10 rfl)
theorem dL_law_1163 : decode cL_law 1163 = .ok (.aload_n 0, 1) := od_42 (od_at tB_cL_law_72 11 rfl)
theorem dL_law_1164 : decode cL_law 1164 = .ok (.iload_n 3, 1) := od_29 (od_at tB_cL_law_72 12 rfl)
theorem dL_law_1165 : decode cL_law 1165 = .ok (.iconst 1, 1) := od_4 (od_at tB_cL_law_72 13 rfl)
theorem dL_law_1166 : decode cL_law 1166 = .ok (.iadd, 1) := od_96 (od_at tB_cL_law_72 14 rfl)
theorem dL_law_1167 : decode cL_law 1167 = .ok (.iaload, 1) := od_46 (od_at tB_cL_law_72 15 rfl)
theorem dL_law_1168 : decode cL_law 1168 = .ok (.aload_n 0, 1) := od_42 (od_at tB_cL_law_73 0 rfl)
theorem dL_law_1169 : decode cL_law 1169 = .ok (.iload_n 3, 1) := od_29 (od_at tB_cL_law_73 1 rfl)
theorem dL_law_1170 : decode cL_law 1170 = .ok (.iconst 2, 1) := od_5 (od_at tB_cL_law_73 2 rfl)
theorem dL_law_1171 : decode cL_law 1171 = .ok (.iadd, 1) := od_96 (od_at tB_cL_law_73 3 rfl)
theorem dL_law_1172 : decode cL_law 1172 = .ok (.iaload, 1) := od_46 (od_at tB_cL_law_73 4 rfl)
theorem dL_law_1173 : decode cL_law 1173 = .ok (.aload_n 0, 1) := od_42 (od_at tB_cL_law_73 5 rfl)
theorem dL_law_1174 : decode cL_law 1174 = .ok (.iload_n 3, 1) := od_29 (od_at tB_cL_law_73 6 rfl)
theorem dL_law_1175 : decode cL_law 1175 = .ok (.iconst 3, 1) := od_6 (od_at tB_cL_law_73 7 rfl)
theorem dL_law_1176 : decode cL_law 1176 = .ok (.iadd, 1) := od_96 (od_at tB_cL_law_73 8 rfl)
theorem dL_law_1177 : decode cL_law 1177 = .ok (.iaload, 1) := od_46 (od_at tB_cL_law_73 9 rfl)
theorem dL_law_1178 : decode cL_law 1178 = .ok (.aload_n 0, 1) := od_42 (od_at tB_cL_law_73 10 rfl)
theorem dL_law_1179 : decode cL_law 1179 = .ok (.iload_n 3, 1) := od_29 (od_at tB_cL_law_73 11 rfl)
theorem dL_law_1180 : decode cL_law 1180 = .ok (.iconst 4, 1) := od_7 (od_at tB_cL_law_73 12 rfl)
theorem dL_law_1181 : decode cL_law 1181 = .ok (.iadd, 1) := od_96 (od_at tB_cL_law_73 13 rfl)
theorem dL_law_1182 : decode cL_law 1182 = .ok (.iaload, 1) := od_46 (od_at tB_cL_law_73 14 rfl)
theorem dL_law_1183 : decode cL_law 1183 = .ok (.aload_n 0, 1) := od_42 (od_at tB_cL_law_73 15 rfl)
theorem dL_law_1184 : decode cL_law 1184 = .ok (.iload_n 3, 1) := od_29 (od_at tB_cL_law_74 0 rfl)
theorem dL_law_1185 : decode cL_law 1185 = .ok (.iconst 5, 1) := od_8 (od_at tB_cL_law_74 1 rfl)
theorem dL_law_1186 : decode cL_law 1186 = .ok (.iadd, 1) := od_96 (od_at tB_cL_law_74 2 rfl)
theorem dL_law_1187 : decode cL_law 1187 = .ok (.iaload, 1) := od_46 (od_at tB_cL_law_74 3 rfl)
theorem dL_law_1188 : decode cL_law 1188 = .ok (.invokevirtual 124, 3) := od_182 (od_at tB_cL_law_74 4 rfl) (od_at tB_cL_law_74 5 rfl) (od_at tB_cL_law_74 6 rfl) rfl
theorem dL_law_1191 : decode cL_law 1191 = .ok (.pop, 1) := od_87 (od_at tB_cL_law_74 7 rfl)
theorem dL_law_1192 : decode cL_law 1192 = .ok (.aload_n 2, 1) := od_44 (od_at tB_cL_law_74 8 rfl)
theorem dL_law_1193 : decode cL_law 1193 = .ok (.aload_n 0, 1) := od_42 (od_at tB_cL_law_74 9 rfl)
theorem dL_law_1194 : decode cL_law 1194 = .ok (.iload_n 3, 1) := od_29 (od_at tB_cL_law_74 10 rfl)
theorem dL_law_1195 : decode cL_law 1195 = .ok (.iconst 1, 1) := od_4 (od_at tB_cL_law_74 11 rfl)
theorem dL_law_1196 : decode cL_law 1196 = .ok (.iadd, 1) := od_96 (od_at tB_cL_law_74 12 rfl)
theorem dL_law_1197 : decode cL_law 1197 = .ok (.iaload, 1) := od_46 (od_at tB_cL_law_74 13 rfl)
theorem dL_law_1198 : decode cL_law 1198 = .ok (.aload_n 0, 1) := od_42 (od_at tB_cL_law_74 14 rfl)
theorem dL_law_1199 : decode cL_law 1199 = .ok (.iload_n 3, 1) := od_29 (od_at tB_cL_law_74 15 rfl)
theorem dL_law_1200 : decode cL_law 1200 = .ok (.iconst 2, 1) := od_5 (od_at tB_cL_law_75 0 rfl)
theorem dL_law_1201 : decode cL_law 1201 = .ok (.iadd, 1) := od_96 (od_at tB_cL_law_75 1 rfl)
theorem dL_law_1202 : decode cL_law 1202 = .ok (.iaload, 1) := od_46 (od_at tB_cL_law_75 2 rfl)
theorem dL_law_1203 : decode cL_law 1203 = .ok (.aload_n 0, 1) := od_42 (od_at tB_cL_law_75 3 rfl)
theorem dL_law_1204 : decode cL_law 1204 = .ok (.iload_n 3, 1) := od_29 (od_at tB_cL_law_75 4 rfl)
theorem dL_law_1205 : decode cL_law 1205 = .ok (.iconst 3, 1) := od_6 (od_at tB_cL_law_75 5 rfl)
theorem dL_law_1206 : decode cL_law 1206 = .ok (.iadd, 1) := od_96 (od_at tB_cL_law_75 6 rfl)
theorem dL_law_1207 : decode cL_law 1207 = .ok (.iaload, 1) := od_46 (od_at tB_cL_law_75 7 rfl)
theorem dL_law_1208 : decode cL_law 1208 = .ok (.aload_n 0, 1) := od_42 (od_at tB_cL_law_75 8 rfl)
theorem dL_law_1209 : decode cL_law 1209 = .ok (.iload_n 3, 1) := od_29 (od_at tB_cL_law_75 9 rfl)
theorem dL_law_1210 : decode cL_law 1210 = .ok (.iconst 4, 1) := od_7 (od_at tB_cL_law_75 10 rfl)
theorem dL_law_1211 : decode cL_law 1211 = .ok (.iadd, 1) := od_96 (od_at tB_cL_law_75 11 rfl)
theorem dL_law_1212 : decode cL_law 1212 = .ok (.iaload, 1) := od_46 (od_at tB_cL_law_75 12 rfl)
theorem dL_law_1213 : decode cL_law 1213 = .ok (.aload_n 0, 1) := od_42 (od_at tB_cL_law_75 13 rfl)
theorem dL_law_1214 : decode cL_law 1214 = .ok (.iload_n 3, 1) := od_29 (od_at tB_cL_law_75 14 rfl)
theorem dL_law_1215 : decode cL_law 1215 = .ok (.iconst 5, 1) := od_8 (od_at tB_cL_law_75 15 rfl)
theorem dL_law_1216 : decode cL_law 1216 = .ok (.iadd, 1) := od_96 (od_at tB_cL_law_76 0 rfl)
theorem dL_law_1217 : decode cL_law 1217 = .ok (.iaload, 1) := od_46 (od_at tB_cL_law_76 1 rfl)
theorem dL_law_1218 : decode cL_law 1218 = .ok (.invokevirtual 128, 3) := od_182 (od_at tB_cL_law_76 2 rfl) (od_at tB_cL_law_76 3 rfl) (od_at tB_cL_law_76 4 rfl) rfl
theorem dL_law_1221 : decode cL_law 1221 = .ok (.pop, 1) := od_87 (od_at tB_cL_law_76 5 rfl)
theorem dL_law_1222 : decode cL_law 1222 = .ok (.goto 194, 3) := od_167 (od_at tB_cL_law_76 6 rfl) (od_at tB_cL_law_76 7 rfl) (od_at tB_cL_law_76 8 rfl) (by decide +kernel)
theorem dL_law_1225 : decode cL_law 1225 = .ok (.aload_n 1, 1) := od_43 (od_at tB_cL_law_76 9 rfl)
theorem dL_law_1226 : decode cL_law 1226 = .ok (.aload_n 0, 1) := od_42 (od_at tB_cL_law_76 10 rfl)
theorem dL_law_1227 : decode cL_law 1227 = .ok (.iload_n 3, 1) := od_29 (od_at tB_cL_law_76 11 rfl)
theorem dL_law_1228 : decode cL_law 1228 = .ok (.iconst 1, 1) := od_4 (od_at tB_cL_law_76 12 rfl)
theorem dL_law_1229 : decode cL_law 1229 = .ok (.iadd, 1) := od_96 (od_at tB_cL_law_76 13 rfl)
theorem dL_law_1230 : decode cL_law 1230 = .ok (.iaload, 1) := od_46 (od_at tB_cL_law_76 14 rfl)
theorem dL_law_1231 : decode cL_law 1231 = .ok (.aload_n 0, 1) := od_42 (od_at tB_cL_law_76 15 rfl)
theorem dL_law_1232 : decode cL_law 1232 = .ok (.iload_n 3, 1) := od_29 (od_at tB_cL_law_77 0 rfl)
theorem dL_law_1233 : decode cL_law 1233 = .ok (.iconst 2, 1) := od_5 (od_at tB_cL_law_77 1 rfl)
theorem dL_law_1234 : decode cL_law 1234 = .ok (.iadd, 1) := od_96 (od_at tB_cL_law_77 2 rfl)
theorem dL_law_1235 : decode cL_law 1235 = .ok (.iaload, 1) := od_46 (od_at tB_cL_law_77 3 rfl)
theorem dL_law_1236 : decode cL_law 1236 = .ok (.aload_n 0, 1) := od_42 (od_at tB_cL_law_77 4 rfl)
theorem dL_law_1237 : decode cL_law 1237 = .ok (.iload_n 3, 1) := od_29 (od_at tB_cL_law_77 5 rfl)
theorem dL_law_1238 : decode cL_law 1238 = .ok (.iconst 3, 1) := od_6 (od_at tB_cL_law_77 6 rfl)
theorem dL_law_1239 : decode cL_law 1239 = .ok (.iadd, 1) := od_96 (od_at tB_cL_law_77 7 rfl)
theorem dL_law_1240 : decode cL_law 1240 = .ok (.iaload, 1) := od_46 (od_at tB_cL_law_77 8 rfl)
theorem dL_law_1241 : decode cL_law 1241 = .ok (.aload_n 0, 1) := od_42 (od_at tB_cL_law_77 9 rfl)
theorem dL_law_1242 : decode cL_law 1242 = .ok (.iload_n 3, 1) := od_29 (od_at tB_cL_law_77 10 rfl)
theorem dL_law_1243 : decode cL_law 1243 = .ok (.iconst 4, 1) := od_7 (od_at tB_cL_law_77 11 rfl)
theorem dL_law_1244 : decode cL_law 1244 = .ok (.iadd, 1) := od_96 (od_at tB_cL_law_77 12 rfl)
theorem dL_law_1245 : decode cL_law 1245 = .ok (.iaload, 1) := od_46 (od_at tB_cL_law_77 13 rfl)
theorem dL_law_1246 : decode cL_law 1246 = .ok (.aload_n 0, 1) := od_42 (od_at tB_cL_law_77 14 rfl)
theorem dL_law_1247 : decode cL_law 1247 = .ok (.iload_n 3, 1) := od_29 (od_at tB_cL_law_77 15 rfl)
theorem dL_law_1248 : decode cL_law 1248 = .ok (.iconst 5, 1) := od_8 (od_at tB_cL_law_78 0 rfl)
theorem dL_law_1249 : decode cL_law 1249 = .ok (.iadd, 1) := od_96 (od_at tB_cL_law_78 1 rfl)
theorem dL_law_1250 : decode cL_law 1250 = .ok (.iaload, 1) := od_46 (od_at tB_cL_law_78 2 rfl)
theorem dL_law_1251 : decode cL_law 1251 = .ok (.invokevirtual 129, 3) := od_182 (od_at tB_cL_law_78 3 rfl) (od_at tB_cL_law_78 4 rfl) (od_at tB_cL_law_78 5 rfl) rfl
theorem dL_law_1254 : decode cL_law 1254 = .ok (.pop, 1) := od_87 (od_at tB_cL_law_78 6 rfl)
theorem dL_law_1255 : decode cL_law 1255 = .ok (.aload_n 2, 1) := od_44 (od_at tB_cL_law_78 7 rfl)
theorem dL_law_1256 : decode cL_law 1256 = .ok (.aload_n 0, 1) := od_42 (od_at tB_cL_law_78 8 rfl)
theorem dL_law_1257 : decode cL_law 1257 = .ok (.iload_n 3, 1) := od_29 (od_at tB_cL_law_78 9 rfl)
theorem dL_law_1258 : decode cL_law 1258 = .ok (.iconst 1, 1) := od_4 (od_at tB_cL_law_78 10 rfl)
theorem dL_law_1259 : decode cL_law 1259 = .ok (.iadd, 1) := od_96 (od_at tB_cL_law_78 11 rfl)
theorem dL_law_1260 : decode cL_law 1260 = .ok (.iaload, 1) := od_46 (od_at tB_cL_law_78 12 rfl)
theorem dL_law_1261 : decode cL_law 1261 = .ok (.aload_n 0, 1) := od_42 (od_at tB_cL_law_78 13 rfl)
theorem dL_law_1262 : decode cL_law 1262 = .ok (.iload_n 3, 1) := od_29 (od_at tB_cL_law_78 14 rfl)
theorem dL_law_1263 : decode cL_law 1263 = .ok (.iconst 2, 1) := od_5 (od_at tB_cL_law_78 15 rfl)
theorem dL_law_1264 : decode cL_law 1264 = .ok (.iadd, 1) := od_96 (od_at tB_cL_law_79 0 rfl)
theorem dL_law_1265 : decode cL_law 1265 = .ok (.iaload, 1) := od_46 (od_at tB_cL_law_79 1 rfl)
theorem dL_law_1266 : decode cL_law 1266 = .ok (.aload_n 0, 1) := od_42 (od_at tB_cL_law_79 2 rfl)
theorem dL_law_1267 : decode cL_law 1267 = .ok (.iload_n 3, 1) := od_29 (od_at tB_cL_law_79 3 rfl)
theorem dL_law_1268 : decode cL_law 1268 = .ok (.iconst 3, 1) := od_6 (od_at tB_cL_law_79 4 rfl)
theorem dL_law_1269 : decode cL_law 1269 = .ok (.iadd, 1) := od_96 (od_at tB_cL_law_79 5 rfl)
theorem dL_law_1270 : decode cL_law 1270 = .ok (.iaload, 1) := od_46 (od_at tB_cL_law_79 6 rfl)
theorem dL_law_1271 : decode cL_law 1271 = .ok (.aload_n 0, 1) := od_42 (od_at tB_cL_law_79 7 rfl)
theorem dL_law_1272 : decode cL_law 1272 = .ok (.iload_n 3, 1) := od_29 (od_at tB_cL_law_79 8 rfl)
theorem dL_law_1273 : decode cL_law 1273 = .ok (.iconst 4, 1) := od_7 (od_at tB_cL_law_79 9 rfl)
theorem dL_law_1274 : decode cL_law 1274 = .ok (.iadd, 1) := od_96 (od_at tB_cL_law_79 10 rfl)
theorem dL_law_1275 : decode cL_law 1275 = .ok (.iaload, 1) := od_46 (od_at tB_cL_law_79 11 rfl)
theorem dL_law_1276 : decode cL_law 1276 = .ok (.aload_n 0, 1) := od_42 (od_at tB_cL_law_79 12 rfl)
theorem dL_law_1277 : decode cL_law 1277 = .ok (.iload_n 3, 1) := od_29 (od_at tB_cL_law_79 13 rfl)
theorem dL_law_1278 : decode cL_law 1278 = .ok (.iconst 5, 1) := od_8 (od_at tB_cL_law_79 14 rfl)
theorem dL_law_1279 : decode cL_law 1279 = .ok (.iadd, 1) := od_96 (od_at tB_cL_law_79 15 rfl)
theorem dL_law_1280 : decode cL_law 1280 = .ok (.iaload, 1) := od_46 (od_at tB_cL_law_80 0 rfl)
theorem dL_law_1281 : decode cL_law 1281 = .ok (.invokevirtual 132, 3) := od_182 (od_at tB_cL_law_80 1 rfl) (od_at tB_cL_law_80 2 rfl) (od_at tB_cL_law_80 3 rfl) rfl
theorem dL_law_1284 : decode cL_law 1284 = .ok (.pop, 1) := od_87 (od_at tB_cL_law_80 4 rfl)
theorem dL_law_1285 : decode cL_law 1285 = .ok (.goto 131, 3) := od_167 (od_at tB_cL_law_80 5 rfl) (od_at tB_cL_law_80 6 rfl) (od_at tB_cL_law_80 7 rfl) (by decide +kernel)
theorem dL_law_1288 : decode cL_law 1288 = .ok (.aload_n 1, 1) := od_43 (od_at tB_cL_law_80 8 rfl)
theorem dL_law_1289 : decode cL_law 1289 = .ok (.aload_n 0, 1) := od_42 (od_at tB_cL_law_80 9 rfl)
theorem dL_law_1290 : decode cL_law 1290 = .ok (.iload_n 3, 1) := od_29 (od_at tB_cL_law_80 10 rfl)
theorem dL_law_1291 : decode cL_law 1291 = .ok (.iconst 1, 1) := od_4 (od_at tB_cL_law_80 11 rfl)
theorem dL_law_1292 : decode cL_law 1292 = .ok (.iadd, 1) := od_96 (od_at tB_cL_law_80 12 rfl)
theorem dL_law_1293 : decode cL_law 1293 = .ok (.iaload, 1) := od_46 (od_at tB_cL_law_80 13 rfl)
theorem dL_law_1294 : decode cL_law 1294 = .ok (.invokevirtual 133, 3) := od_182 (od_at tB_cL_law_80 14 rfl) (od_at tB_cL_law_80 15 rfl) (od_at tB_cL_law_80 16 rfl) rfl
theorem dL_law_1297 : decode cL_law 1297 = .ok (.pop, 1) := od_87 (od_at tB_cL_law_81 1 rfl)
theorem dL_law_1298 : decode cL_law 1298 = .ok (.aload_n 2, 1) := od_44 (od_at tB_cL_law_81 2 rfl)
theorem dL_law_1299 : decode cL_law 1299 = .ok (.aload_n 0, 1) := od_42 (od_at tB_cL_law_81 3 rfl)
theorem dL_law_1300 : decode cL_law 1300 = .ok (.iload_n 3, 1) := od_29 (od_at tB_cL_law_81 4 rfl)
theorem dL_law_1301 : decode cL_law 1301 = .ok (.iconst 1, 1) := od_4 (od_at tB_cL_law_81 5 rfl)
theorem dL_law_1302 : decode cL_law 1302 = .ok (.iadd, 1) := od_96 (od_at tB_cL_law_81 6 rfl)
theorem dL_law_1303 : decode cL_law 1303 = .ok (.iaload, 1) := od_46 (od_at tB_cL_law_81 7 rfl)
theorem dL_law_1304 : decode cL_law 1304 = .ok (.invokevirtual 136, 3) := od_182 (od_at tB_cL_law_81 8 rfl) (od_at tB_cL_law_81 9 rfl) (od_at tB_cL_law_81 10 rfl) rfl
theorem dL_law_1307 : decode cL_law 1307 = .ok (.pop, 1) := od_87 (od_at tB_cL_law_81 11 rfl)
theorem dL_law_1308 : decode cL_law 1308 = .ok (.goto 108, 3) := od_167 (od_at tB_cL_law_81 12 rfl) (od_at tB_cL_law_81 13 rfl) (od_at tB_cL_law_81 14 rfl) (by decide +kernel)
theorem dL_law_1311 : decode cL_law 1311 = .ok (.aload_n 1, 1) := od_43 (od_at tB_cL_law_81 15 rfl)
theorem dL_law_1312 : decode cL_law 1312 = .ok (.aload_n 0, 1) := od_42 (od_at tB_cL_law_82 0 rfl)
theorem dL_law_1313 : decode cL_law 1313 = .ok (.iload_n 3, 1) := od_29 (od_at tB_cL_law_82 1 rfl)
theorem dL_law_1314 : decode cL_law 1314 = .ok (.iconst 1, 1) := od_4 (od_at tB_cL_law_82 2 rfl)
theorem dL_law_1315 : decode cL_law 1315 = .ok (.iadd, 1) := od_96 (od_at tB_cL_law_82 3 rfl)
theorem dL_law_1316 : decode cL_law 1316 = .ok (.iaload, 1) := od_46 (od_at tB_cL_law_82 4 rfl)
theorem dL_law_1317 : decode cL_law 1317 = .ok (.invokevirtual 137, 3) := od_182 (od_at tB_cL_law_82 5 rfl) (od_at tB_cL_law_82 6 rfl) (od_at tB_cL_law_82 7 rfl) rfl
theorem dL_law_1320 : decode cL_law 1320 = .ok (.pop, 1) := od_87 (od_at tB_cL_law_82 8 rfl)
theorem dL_law_1321 : decode cL_law 1321 = .ok (.aload_n 2, 1) := od_44 (od_at tB_cL_law_82 9 rfl)
theorem dL_law_1322 : decode cL_law 1322 = .ok (.aload_n 0, 1) := od_42 (od_at tB_cL_law_82 10 rfl)
theorem dL_law_1323 : decode cL_law 1323 = .ok (.iload_n 3, 1) := od_29 (od_at tB_cL_law_82 11 rfl)
theorem dL_law_1324 : decode cL_law 1324 = .ok (.iconst 1, 1) := od_4 (od_at tB_cL_law_82 12 rfl)
theorem dL_law_1325 : decode cL_law 1325 = .ok (.iadd, 1) := od_96 (od_at tB_cL_law_82 13 rfl)
theorem dL_law_1326 : decode cL_law 1326 = .ok (.iaload, 1) := od_46 (od_at tB_cL_law_82 14 rfl)
theorem dL_law_1327 : decode cL_law 1327 = .ok (.invokevirtual 140, 3) := od_182 (od_at tB_cL_law_82 15 rfl) (od_at tB_cL_law_82 16 rfl) (od_at tB_cL_law_82 17 rfl) rfl
theorem dL_law_1330 : decode cL_law 1330 = .ok (.pop, 1) := od_87 (od_at tB_cL_law_83 2 rfl)
theorem dL_law_1331 : decode cL_law 1331 = .ok (.goto 85, 3) := od_167 (od_at tB_cL_law_83 3 rfl) (od_at tB_cL_law_83 4 rfl) (od_at tB_cL_law_83 5 rfl) (by decide +kernel)
theorem dL_law_1334 : decode cL_law 1334 = .ok (.aload_n 1, 1) := od_43 (od_at tB_cL_law_83 6 rfl)
theorem dL_law_1335 : decode cL_law 1335 = .ok (.aload_n 0, 1) := od_42 (od_at tB_cL_law_83 7 rfl)
theorem dL_law_1336 : decode cL_law 1336 = .ok (.iload_n 3, 1) := od_29 (od_at tB_cL_law_83 8 rfl)
theorem dL_law_1337 : decode cL_law 1337 = .ok (.iconst 1, 1) := od_4 (od_at tB_cL_law_83 9 rfl)
theorem dL_law_1338 : decode cL_law 1338 = .ok (.iadd, 1) := od_96 (od_at tB_cL_law_83 10 rfl)
theorem dL_law_1339 : decode cL_law 1339 = .ok (.iaload, 1) := od_46 (od_at tB_cL_law_83 11 rfl)
theorem dL_law_1340 : decode cL_law 1340 = .ok (.aload_n 0, 1) := od_42 (od_at tB_cL_law_83 12 rfl)
theorem dL_law_1341 : decode cL_law 1341 = .ok (.iload_n 3, 1) := od_29 (od_at tB_cL_law_83 13 rfl)
theorem dL_law_1342 : decode cL_law 1342 = .ok (.iconst 2, 1) := od_5 (od_at tB_cL_law_83 14 rfl)
theorem dL_law_1343 : decode cL_law 1343 = .ok (.iadd, 1) := od_96 (od_at tB_cL_law_83 15 rfl)
theorem dL_law_1344 : decode cL_law 1344 = .ok (.iaload, 1) := od_46 (od_at tB_cL_law_84 0 rfl)
theorem dL_law_1345 : decode cL_law 1345 = .ok (.invokevirtual 141, 3) := od_182 (od_at tB_cL_law_84 1 rfl) (od_at tB_cL_law_84 2 rfl) (od_at tB_cL_law_84 3 rfl) rfl
theorem dL_law_1348 : decode cL_law 1348 = .ok (.pop, 1) := od_87 (od_at tB_cL_law_84 4 rfl)
theorem dL_law_1349 : decode cL_law 1349 = .ok (.aload_n 2, 1) := od_44 (od_at tB_cL_law_84 5 rfl)
theorem dL_law_1350 : decode cL_law 1350 = .ok (.aload_n 0, 1) := od_42 (od_at tB_cL_law_84 6 rfl)
theorem dL_law_1351 : decode cL_law 1351 = .ok (.iload_n 3, 1) := od_29 (od_at tB_cL_law_84 7 rfl)
theorem dL_law_1352 : decode cL_law 1352 = .ok (.iconst 1, 1) := od_4 (od_at tB_cL_law_84 8 rfl)
theorem dL_law_1353 : decode cL_law 1353 = .ok (.iadd, 1) := od_96 (od_at tB_cL_law_84 9 rfl)
theorem dL_law_1354 : decode cL_law 1354 = .ok (.iaload, 1) := od_46 (od_at tB_cL_law_84 10 rfl)
theorem dL_law_1355 : decode cL_law 1355 = .ok (.aload_n 0, 1) := od_42 (od_at tB_cL_law_84 11 rfl)
theorem dL_law_1356 : decode cL_law 1356 = .ok (.iload_n 3, 1) := od_29 (od_at tB_cL_law_84 12 rfl)
theorem dL_law_1357 : decode cL_law 1357 = .ok (.iconst 2, 1) := od_5 (od_at tB_cL_law_84 13 rfl)
theorem dL_law_1358 : decode cL_law 1358 = .ok (.iadd, 1) := od_96 (od_at tB_cL_law_84 14 rfl)
theorem dL_law_1359 : decode cL_law 1359 = .ok (.iaload, 1) := od_46 (od_at tB_cL_law_84 15 rfl)
theorem dL_law_1360 : decode cL_law 1360 = .ok (.invokevirtual 144, 3) := od_182 (od_at tB_cL_law_85 0 rfl) (od_at tB_cL_law_85 1 rfl) (od_at tB_cL_law_85 2 rfl) rfl
theorem dL_law_1363 : decode cL_law 1363 = .ok (.pop, 1) := od_87 (od_at tB_cL_law_85 3 rfl)
theorem dL_law_1364 : decode cL_law 1364 = .ok (.goto 52, 3) := od_167 (od_at tB_cL_law_85 4 rfl) (od_at tB_cL_law_85 5 rfl) (od_at tB_cL_law_85 6 rfl) (by decide +kernel)
theorem dL_law_1367 : decode cL_law 1367 = .ok (.aload_n 1, 1) := od_43 (od_at tB_cL_law_85 7 rfl)
theorem dL_law_1368 : decode cL_law 1368 = .ok (.invokevirtual 145, 3) := od_182 (od_at tB_cL_law_85 8 rfl) (od_at tB_cL_law_85 9 rfl) (od_at tB_cL_law_85 10 rfl) rfl
theorem dL_law_1371 : decode cL_law 1371 = .ok (.pop, 1) := od_87 (od_at tB_cL_law_85 11 rfl)
theorem dL_law_1372 : decode cL_law 1372 = .ok (.aload_n 2, 1) := od_44 (od_at tB_cL_law_85 12 rfl)
theorem dL_law_1373 : decode cL_law 1373 = .ok (.invokevirtual 149, 3) := od_182 (od_at tB_cL_law_85 13 rfl) (od_at tB_cL_law_85 14 rfl) (od_at tB_cL_law_85 15 rfl) rfl
theorem dL_law_1376 : decode cL_law 1376 = .ok (.pop, 1) := od_87 (od_at tB_cL_law_86 0 rfl)
theorem dL_law_1377 : decode cL_law 1377 = .ok (.goto 39, 3) := od_167 (od_at tB_cL_law_86 1 rfl) (od_at tB_cL_law_86 2 rfl) (od_at tB_cL_law_86 3 rfl) (by decide +kernel)
theorem dL_law_1380 : decode cL_law 1380 = .ok (.aload_n 1, 1) := od_43 (od_at tB_cL_law_86 4 rfl)
theorem dL_law_1381 : decode cL_law 1381 = .ok (.invokevirtual 150, 3) := od_182 (od_at tB_cL_law_86 5 rfl) (od_at tB_cL_law_86 6 rfl) (od_at tB_cL_law_86 7 rfl) rfl
theorem dL_law_1384 : decode cL_law 1384 = .ok (.pop, 1) := od_87 (od_at tB_cL_law_86 8 rfl)
theorem dL_law_1385 : decode cL_law 1385 = .ok (.aload_n 2, 1) := od_44 (od_at tB_cL_law_86 9 rfl)
theorem dL_law_1386 : decode cL_law 1386 = .ok (.invokevirtual 153, 3) := od_182 (od_at tB_cL_law_86 10 rfl) (od_at tB_cL_law_86 11 rfl) (od_at tB_cL_law_86 12 rfl) rfl
theorem dL_law_1389 : decode cL_law 1389 = .ok (.pop, 1) := od_87 (od_at tB_cL_law_86 13 rfl)
theorem dL_law_1390 : decode cL_law 1390 = .ok (.goto 26, 3) := od_167 (od_at tB_cL_law_86 14 rfl) (od_at tB_cL_law_86 15 rfl) (od_at tB_cL_law_86 16 rfl) (by decide +kernel)
theorem dL_law_1393 : decode cL_law 1393 = .ok (.aload_n 1, 1) := od_43 (od_at tB_cL_law_87 1 rfl)
theorem dL_law_1394 : decode cL_law 1394 = .ok (.aload_n 0, 1) := od_42 (od_at tB_cL_law_87 2 rfl)
theorem dL_law_1395 : decode cL_law 1395 = .ok (.iload_n 3, 1) := od_29 (od_at tB_cL_law_87 3 rfl)
theorem dL_law_1396 : decode cL_law 1396 = .ok (.iconst 1, 1) := od_4 (od_at tB_cL_law_87 4 rfl)
theorem dL_law_1397 : decode cL_law 1397 = .ok (.iadd, 1) := od_96 (od_at tB_cL_law_87 5 rfl)
theorem dL_law_1398 : decode cL_law 1398 = .ok (.iaload, 1) := od_46 (od_at tB_cL_law_87 6 rfl)
theorem dL_law_1399 : decode cL_law 1399 = .ok (.invokevirtual 154, 3) := od_182 (od_at tB_cL_law_87 7 rfl) (od_at tB_cL_law_87 8 rfl) (od_at tB_cL_law_87 9 rfl) rfl
theorem dL_law_1402 : decode cL_law 1402 = .ok (.aload_n 2, 1) := od_44 (od_at tB_cL_law_87 10 rfl)
theorem dL_law_1403 : decode cL_law 1403 = .ok (.aload_n 0, 1) := od_42 (od_at tB_cL_law_87 11 rfl)
theorem dL_law_1404 : decode cL_law 1404 = .ok (.iload_n 3, 1) := od_29 (od_at tB_cL_law_87 12 rfl)
theorem dL_law_1405 : decode cL_law 1405 = .ok (.iconst 1, 1) := od_4 (od_at tB_cL_law_87 13 rfl)
theorem dL_law_1406 : decode cL_law 1406 = .ok (.iadd, 1) := od_96 (od_at tB_cL_law_87 14 rfl)
theorem dL_law_1407 : decode cL_law 1407 = .ok (.iaload, 1) := od_46 (od_at tB_cL_law_87 15 rfl)
theorem dL_law_1408 : decode cL_law 1408 = .ok (.invokevirtual 157, 3) := od_182 (od_at tB_cL_law_88 0 rfl) (od_at tB_cL_law_88 1 rfl) (od_at tB_cL_law_88 2 rfl) rfl
theorem dL_law_1411 : decode cL_law 1411 = .ok (.if_icmp .eq 5, 3) := od_159 (od_at tB_cL_law_88 3 rfl) (od_at tB_cL_law_88 4 rfl) (od_at tB_cL_law_88 5 rfl) (by decide +kernel)
theorem dL_law_1414 : decode cL_law 1414 = .ok (.iconst 0, 1) := od_3 (od_at tB_cL_law_88 6 rfl)
theorem dL_law_1415 : decode cL_law 1415 = .ok (.ireturn, 1) := od_172 (od_at tB_cL_law_88 7 rfl)
theorem dL_law_1416 : decode cL_law 1416 = .ok (.iinc 3 6, 3) := od_132 (od_at tB_cL_law_88 8 rfl) (od_at tB_cL_law_88 9 rfl) (od_at tB_cL_law_88 10 rfl) rfl (by decide +kernel)
theorem dL_law_1419 : decode cL_law 1419 = .ok (.goto (-1401), 3) := od_167 (od_at tB_cL_law_88 11 rfl) (od_at tB_cL_law_88 12 rfl) (od_at tB_cL_law_88 13 rfl) (by decide +kernel)
theorem dL_law_1422 : decode cL_law 1422 = .ok (.iconst 1, 1) := od_4 (od_at tB_cL_law_88 14 rfl)
theorem dL_law_1423 : decode cL_law 1423 = .ok (.ireturn, 1) := od_172 (od_at tB_cL_law_88 15 rfl)
